section AD
variable {ar : Nat → ClassId} {σ : mj_S} {e e' : va_E} {n : Nat} {l : List (Nat × va_E)}
/-- cells are made, one behind the other -/
def mj_ads (σ : mj_S) (l : List (Nat × va_E)) : mj_S := l.foldl (fun s p => mj_add s p.1 p.2) σ
theorem ads_nil : mj_ads σ [] = σ := rfl
theorem ads_snoc : mj_add (mj_ads σ l) n e = mj_ads σ (l ++ [(n, e)]) := by
  unfold mj_ads
  rw [List.foldl_append]
  rfl
theorem ads_1 : ∀ (l : List (Nat × va_E)) (σ : mj_S), (mj_ads σ l).1 = σ.1 + l.length
  | [], σ => rfl
  | p :: l, σ => by
    have h : mj_ads σ (p :: l) = mj_ads (mj_add σ p.1 p.2) l := rfl
    rw [h, ads_1 l, add_1, List.length_cons]
    omega
theorem ads_old {a : Nat} : ∀ (l : List (Nat × va_E)) (σ : mj_S), a < σ.1 → (mj_ads σ l).2.2 a = σ.2.2 a
  | [], σ, _ => rfl
  | p :: l, σ, h => by
    have h1 : mj_ads σ (p :: l) = mj_ads (mj_add σ p.1 p.2) l := rfl
    rw [h1, ads_old l _ (by rw [add_1]; omega), add_ne (by omega)]
theorem ads_up {a : Nat} : ∀ (l : List (Nat × va_E)) (σ : mj_S), a < σ.1 → mj_up (mj_ads σ l) a e = mj_ads (mj_up σ a e) l
  | [], σ, _ => rfl
  | p :: l, σ, h => by
    have h1 : ∀ σ, mj_ads σ (p :: l) = mj_ads (mj_add σ p.1 p.2) l := fun _ => rfl
    rw [h1, h1, ads_up l _ (by rw [add_1]; omega), up_add (by omega)]
theorem ads_at0 : (mj_ads (mj_add σ n e) l).2.2 σ.1 = some e := by
  rw [ads_old l _ (by rw [add_1]; omega)]
  exact add_eq
theorem ads_up0 : mj_up (mj_ads (mj_add σ n e) l) σ.1 e' = mj_ads (mj_add σ n e') l := by
  rw [ads_up l _ (by rw [add_1]; omega), up_new]
theorem ads_21 : ∀ (l : List (Nat × va_E)) (σ : mj_S), (mj_ads σ l).2.1 = σ.2.1 + (l.map Prod.fst).sum
  | [], σ => rfl
  | p :: l, σ => by
    have h : mj_ads σ (p :: l) = mj_ads (mj_add σ p.1 p.2) l := rfl
    rw [h, ads_21 l, List.map_cons, List.sum_cons]
    show σ.2.1 + p.1 + _ = _
    omega
/-- a cell of those made -/
theorem ads_at : ∀ (l : List (Nat × va_E)) (σ : mj_S) (i : Nat), i < l.length → (mj_ads σ l).2.2 (σ.1 + i) = (l[i]?).map Prod.snd
  | [], σ, i, h => by simp at h
  | p :: l, σ, 0, h => by
    have h1 : mj_ads σ (p :: l) = mj_ads (mj_add σ p.1 p.2) l := rfl
    rw [h1, Nat.add_zero, ads_at0]
    rfl
  | p :: l, σ, i + 1, h => by
    have h1 : mj_ads σ (p :: l) = mj_ads (mj_add σ p.1 p.2) l := rfl
    have h2 := ads_at l (mj_add σ p.1 p.2) i (by simpa using h)
    rw [add_1] at h2
    rw [h1, show σ.1 + (i + 1) = σ.1 + 1 + i by omega, h2]
    rfl
end AD
