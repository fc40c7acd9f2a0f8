section MJB
variable {Θ : mj_T} {k : Nat} {pc : Nat} {L : List (Option Value)} {st : List Value} {σ : mj_S} {Q : (Option Value ⊕ String) → mj_S → Prop}
/-- a field's value: object a of class c, slot j -/
def mj_fld (σ : mj_S) (a c j : Nat) : Option Value := match σ.2.2 a with
  | some (.inr (cj, fs)) => if cj = c then fs[j]? else none
  | _ => none
/-- a field is set -/
def mj_sf (σ : mj_S) (a j : Nat) (v : Value) : mj_S := match σ.2.2 a with
  | some (.inr (c, fs)) => mj_up σ a (.inr (c, fs.set j v))
  | _ => σ
/-- what a step comes to -/
def mj_Wo (Θ : mj_T) (k : Nat) (σ : mj_S) (o : Option mj_O) (Q : (Option Value ⊕ String) → mj_S → Prop) : Prop := match o with
  | none => False
  | some (.inl f') => mj_wp Θ k f' Q
  | some (.inr (.inl v)) => Q (.inl v) σ
  | some (.inr (.inr (.inl E))) => Q (.inr E) σ
  | some (.inr (.inr (.inr (y, as, g)))) => as.length ≤ mj_mL Θ y ∧ mj_wp Θ y (mj_en Θ y as g.2.2.2) (mj_bk Θ k g.1 g.2.1 g.2.2.1 Q)
theorem mj_Wo_iff (Θ : mj_T) (k : Nat) (f : mj_F) : mj_wp Θ k f Q ↔ mj_Wo Θ k f.2.2.2 (mj_st Θ k f) Q := by
  cases h : mj_st Θ k f with
  | none =>
    constructor
    · rintro ⟨r, h1, -⟩
      rw [mj_R_iff, h] at h1
      exact h1
    · intro h1
      exact h1.elim
  | some o =>
    rcases o with f' | v | E | ⟨y, as, g⟩
    · exact wp_next h
    · exact wp_ret h
    · exact wp_thr h
    · constructor
      · intro hw
        have hl : as.length ≤ mj_mL Θ y := by
          obtain ⟨r, h1, -⟩ := hw
          rw [mj_R_iff, h] at h1
          exact h1.1
        exact ⟨hl, (wp_call h hl).mp hw⟩
      · rintro ⟨hl, hw⟩
        exact (wp_call h hl).mpr hw
theorem wo_none : mj_Wo Θ k σ none Q ↔ False := Iff.rfl
theorem wo_nx {f : mj_F} : mj_Wo Θ k σ (some (.inl f)) Q ↔ mj_wp Θ k f Q := Iff.rfl
theorem wo_ret {v : Option Value} : mj_Wo Θ k σ (some (.inr (.inl v))) Q ↔ Q (.inl v) σ := Iff.rfl
theorem wo_thr {E : String} : mj_Wo Θ k σ (some (.inr (.inr (.inl E)))) Q ↔ Q (.inr E) σ := Iff.rfl
theorem wo_ite {c : Prop} {hc : Decidable c} {a b : Option mj_O} : mj_Wo Θ k σ (if c then a else b) Q ↔ if c then mj_Wo Θ k σ a Q else mj_Wo Θ k σ b Q := by
  by_cases h : c
  · rw [if_pos h, if_pos h]
  · rw [if_neg h, if_neg h]
theorem mj_row {i : Instr} {len : Nat} {o : Option mj_O} (hd : decode (mj_cc Θ k) pc = .ok (i, len)) (ho : mj_i Θ k i len pc L st σ = o) : mj_wp Θ k (pc, L, st, σ) Q ↔ mj_Wo Θ k σ o Q := by
  rw [mj_Wo_iff, wp_at hd, ho]
def mj_gf (c j q : Nat) (L : List (Option Value)) (st : List Value) (σ : mj_S) : Option mj_O := match st with
  | .ref a :: r => match mj_fld σ a c j with
    | some v => mj_nx (q, L, v :: r, σ)
    | none => none
  | _ => none
theorem mj_get_eq {ix c j q : Nat} {fin : Bool} (h : mj_fl Θ (mj_o Θ k) ix = some (c, j, fin)) : mj_get Θ k ix q L st σ = mj_gf c j q L st σ := by
  cases st with
  | nil => rfl
  | cons v r =>
    cases v with
    | ref a =>
      simp only [mj_get, mj_gf, mj_fld, h]
      cases hs : σ.2.2 a with
      | none => rfl
      | some x =>
        cases x with
        | inl y => rfl
        | inr z =>
          obtain ⟨cj, fs⟩ := z
          dsimp only
          by_cases hc : cj = c
          · rw [if_pos hc, if_pos hc]; cases fs[j]? <;> rfl
          · rw [if_neg hc, if_neg hc]
    | _ => rfl
end MJB
