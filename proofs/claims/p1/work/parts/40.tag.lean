/-! Stores by tags: each cell that a program uses has a tag of its own; the layout A says where it lies. -/
/-- a tag: kind, number -/
abbrev tg_T : Type := Nat × Nat
section TG
variable {A : tg_T → Nat} {H : tg_T → Option va_E} {σ : mj_S} {t u : tg_T} {e e' e0 : va_E}
def tg_R (A : tg_T → Nat) (H : tg_T → Option va_E) (σ : mj_S) : Prop := (∀ t e, H t = some e → σ.2.2 (A t) = some e) ∧ (∀ t u e e', H t = some e → H u = some e' → A t = A u → t = u) ∧ (∀ t e, H t = some e → A t < σ.1)
def tg_up (H : tg_T → Option va_E) (t : tg_T) (e : va_E) : tg_T → Option va_E := fun u => if u = t then some e else H u
def tg_at (A : tg_T → Nat) (t : tg_T) (a : Nat) : tg_T → Nat := fun u => if u = t then a else A u
theorem tg_get (h : tg_R A H σ) (ht : H t = some e) : σ.2.2 (A t) = some e := h.1 t e ht
theorem tg_ne (h : tg_R A H σ) (ht : H t = some e) (hu : H u = some e') (hn : t ≠ u) : A t ≠ A u := fun q => hn (h.2.1 t u e e' ht hu q)
theorem tg_lt (h : tg_R A H σ) (ht : H t = some e) : A t < σ.1 := h.2.2 t e ht
theorem tg_nf (h : tg_R A H σ) (ht : H t = some e) : A t ≠ σ.1 := Nat.ne_of_lt (tg_lt h ht)
theorem tg_ue : tg_up H t e t = some e := if_pos rfl
theorem tg_un (h : u ≠ t) : tg_up H t e u = H u := if_neg h
theorem tg_ae {a : Nat} : tg_at A t a t = a := if_pos rfl
theorem tg_an {a : Nat} (h : u ≠ t) : tg_at A t a u = A u := if_neg h
theorem tg_was (ht : H t = some e0) (hu : tg_up H t e u = some e') : ∃ e2, H u = some e2 := by
  by_cases q : u = t
  · subst q
    exact ⟨e0, ht⟩
  · rw [tg_un q] at hu
    exact ⟨e', hu⟩
/-- a cell is set -/
theorem tg_set (h : tg_R A H σ) (ht : H t = some e0) (e : va_E) : tg_R A (tg_up H t e) (mj_up σ (A t) e) := by
  refine ⟨fun u e' hu => ?_, fun u v e1 e2 hu hv q => ?_, fun u e' hu => ?_⟩
  · by_cases q : u = t
    · subst q
      rw [tg_ue] at hu
      rw [up_eq, hu]
    · rw [tg_un q] at hu
      rw [up_ne (tg_ne h hu ht q)]
      exact tg_get h hu
  · obtain ⟨x, hx⟩ := tg_was ht hu
    obtain ⟨y, hy⟩ := tg_was ht hv
    exact h.2.1 u v x y hx hy q
  · obtain ⟨x, hx⟩ := tg_was ht hu
    rw [up_1]
    exact tg_lt h hx
/-- a new cell -/
theorem tg_new (h : tg_R A H σ) (ht : H t = none) (n : Nat) (e : va_E) : tg_R (tg_at A t σ.1) (tg_up H t e) (mj_add σ n e) := by
  refine ⟨fun u e' hu => ?_, fun u v e1 e2 hu hv q => ?_, fun u e' hu => ?_⟩
  · by_cases q : u = t
    · subst q
      rw [tg_ue] at hu
      rw [tg_ae, add_eq, hu]
    · rw [tg_un q] at hu
      rw [tg_an q, add_ne (tg_nf h hu)]
      exact tg_get h hu
  · by_cases qu : u = t
    · by_cases qv : v = t
      · rw [qu, qv]
      · subst qu
        rw [tg_un qv] at hv
        rw [tg_ae, tg_an qv] at q
        exact absurd q.symm (tg_nf h hv)
    · rw [tg_un qu] at hu
      by_cases qv : v = t
      · subst qv
        rw [tg_ae, tg_an qu] at q
        exact absurd q (tg_nf h hu)
      · rw [tg_un qv] at hv
        rw [tg_an qu, tg_an qv] at q
        exact h.2.1 u v e1 e2 hu hv q
  · rw [add_1]
    by_cases q : u = t
    · subst q
      rw [tg_ae]
      omega
    · rw [tg_un q] at hu
      rw [tg_an q]
      have := tg_lt h hu
      omega
/-- the same cells under another description -/
theorem tg_eq {H' : tg_T → Option va_E} (h : tg_R A H σ) (q : H' = H) : tg_R A H' σ := q ▸ h
/-- cells may be forgotten -/
theorem tg_sub {H' : tg_T → Option va_E} (h : tg_R A H σ) (q : ∀ t e, H' t = some e → H t = some e) : tg_R A H' σ := ⟨fun t e ht => h.1 t e (q t e ht), fun t u e e' ht hu => h.2.1 t u e e' (q t e ht) (q u e' hu), fun t e ht => h.2.2 t e (q t e ht)⟩
/-- layouts that agree on what is there -/
theorem tg_lay {A' : tg_T → Nat} (h : tg_R A H σ) (q : ∀ t e, H t = some e → A' t = A t) : tg_R A' H σ := ⟨fun t e ht => by rw [q t e ht]; exact h.1 t e ht, fun t u e e' ht hu w => h.2.1 t u e e' ht hu (by rw [← q t e ht, ← q u e' hu]; exact w), fun t e ht => by rw [q t e ht]; exact h.2.2 t e ht⟩
end TG
