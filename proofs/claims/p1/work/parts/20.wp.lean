/-! The small machine's runs, by what they come to. -/
section MJP
variable {Θ : mj_T} {k : Nat} {pc : Nat} {L : List (Option Value)} {st : List Value} {σ : mj_S} {f f' : mj_F} {Q Q' : (Option Value ⊕ String) → mj_S → Prop}
def mj_wp (Θ : mj_T) (k : Nat) (f : mj_F) (Q : (Option Value ⊕ String) → mj_S → Prop) : Prop := ∃ r, mj_R Θ k f r ∧ Q r.1 r.2
theorem wp_mono (h : mj_wp Θ k f Q) (hq : ∀ o τ, Q o τ → Q' o τ) : mj_wp Θ k f Q' := by
  obtain ⟨r, h1, h2⟩ := h
  exact ⟨r, h1, hq _ _ h2⟩
theorem wp_next (h : mj_st Θ k f = some (.inl f')) : mj_wp Θ k f Q ↔ mj_wp Θ k f' Q := by
  have e : ∀ r, mj_R Θ k f r ↔ mj_R Θ k f' r := fun r => by rw [mj_R_iff, h]; rfl
  constructor
  · rintro ⟨r, h1, h2⟩
    exact ⟨r, (e r).mp h1, h2⟩
  · rintro ⟨r, h1, h2⟩
    exact ⟨r, (e r).mpr h1, h2⟩
theorem wp_ret {v : Option Value} (h : mj_st Θ k f = some (.inr (.inl v))) : mj_wp Θ k f Q ↔ Q (.inl v) f.2.2.2 := by
  have e : ∀ r, mj_R Θ k f r ↔ (.inl v, f.2.2.2) = r := fun r => by rw [mj_R_iff, h]; rfl
  constructor
  · rintro ⟨r, h1, h2⟩
    have h3 := (e r).mp h1
    subst h3
    exact h2
  · intro h2
    exact ⟨_, (e _).mpr rfl, h2⟩
theorem wp_thr {E : String} (h : mj_st Θ k f = some (.inr (.inr (.inl E)))) : mj_wp Θ k f Q ↔ Q (.inr E) f.2.2.2 := by
  have e : ∀ r, mj_R Θ k f r ↔ (.inr E, f.2.2.2) = r := fun r => by rw [mj_R_iff, h]; rfl
  constructor
  · rintro ⟨r, h1, h2⟩
    have h3 := (e r).mp h1
    subst h3
    exact h2
  · intro h2
    exact ⟨_, (e _).mpr rfl, h2⟩
/-- behind a call: what the callee comes to -/
def mj_bk (Θ : mj_T) (k y : Nat) (pc : Nat) (L : List (Option Value)) (st : List Value) (Q : (Option Value ⊕ String) → mj_S → Prop) : (Option Value ⊕ String) → mj_S → Prop := fun o τ => match o with
  | .inl v => mj_wp Θ k (pc, L, v.toList ++ st, τ) Q
  | .inr E => mj_kd Θ y = 0 ∧ Q (.inr E) τ
theorem wp_call {y : Nat} {as : List Value} {g : mj_F} (h : mj_st Θ k f = some (.inr (.inr (.inr (y, as, g))))) (hl : as.length ≤ mj_mL Θ y) : mj_wp Θ k f Q ↔ mj_wp Θ y (mj_en Θ y as g.2.2.2) (mj_bk Θ k y g.1 g.2.1 g.2.2.1 Q) := by
  have e : ∀ r, mj_R Θ k f r ↔ ∃ q, mj_R Θ y (mj_en Θ y as g.2.2.2) q ∧ (match q with
    | (.inl v, σ1) => mj_R Θ k (g.1, g.2.1, v.toList ++ g.2.2.1, σ1) r
    | (.inr E, σ1) => mj_kd Θ y = 0 ∧ (.inr E, σ1) = r) := fun r => by
    rw [mj_R_iff, h]
    exact ⟨fun q => q.2, fun q => ⟨hl, q⟩⟩
  constructor
  · rintro ⟨r, h1, h2⟩
    obtain ⟨⟨o, τ⟩, q1, q2⟩ := (e r).mp h1
    refine ⟨(o, τ), q1, ?_⟩
    cases o with
    | inl v => exact ⟨r, q2, h2⟩
    | inr E =>
      dsimp only at q2
      obtain ⟨q3, q2⟩ := q2
      subst q2
      exact ⟨q3, h2⟩
  · rintro ⟨⟨o, τ⟩, q1, q2⟩
    cases o with
    | inl v =>
      obtain ⟨r, h1, h2⟩ := q2
      exact ⟨r, (e r).mpr ⟨_, q1, h1⟩, h2⟩
    | inr E => exact ⟨(.inr E, τ), (e _).mpr ⟨_, q1, q2.1, rfl⟩, q2.2⟩
/-- a step by its instruction -/
theorem wp_at {i : Instr} {len : Nat} (hd : decode (mj_cc Θ k) pc = .ok (i, len)) : mj_st Θ k (pc, L, st, σ) = mj_i Θ k i len pc L st σ := by
  unfold mj_st
  dsimp only
  rw [hd]
end MJP
