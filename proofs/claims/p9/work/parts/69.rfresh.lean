section RO
variable {ar : Nat → ClassId} {σ : mj_S} {Q : (Option Value ⊕ String) → mj_S → Prop}
theorem ads_far {a : Nat} : ∀ (l : List (Nat × va_E)) (σ : mj_S), σ.1 + l.length ≤ a → (mj_ads σ l).2.2 a = σ.2.2 a
  | [], σ, _ => rfl
  | p :: l, σ, h => by
    have h1 : mj_ads σ (p :: l) = mj_ads (mj_add σ p.1 p.2) l := rfl
    rw [List.length_cons] at h
    rw [h1, ads_far l _ (by rw [add_1]; omega), add_ne (by omega)]
theorem rs_far {f : Nat → Int32} : ∀ t, 37 ≤ t → rs_ar ar f t = none := by
  intro t h
  obtain ⟨n, rfl⟩ : ∃ n, t = n + 37 := ⟨t - 37, by omega⟩
  rfl
theorem rs_near {m : Nat} : ∀ i, i < 36 → rs_ar ar ((rs_0 m).2 (i + 1)) (i + 1) = ((rs_l ar)[i]?).map Prod.snd := by
  intro i h
  match i, h with
  | 0, _ => rfl
  | 1, _ => rfl
  | 2, _ => rfl
  | 3, _ => rfl
  | 4, _ => rfl
  | 5, _ => rfl
  | 6, _ => rfl
  | 7, _ => rfl
  | 8, _ => rfl
  | 9, _ => rfl
  | 10, _ => rfl
  | 11, _ => rfl
  | 12, _ => rfl
  | 13, _ => rfl
  | 14, _ => rfl
  | 15, _ => rfl
  | 16, _ => rfl
  | 17, _ => rfl
  | 18, _ => rfl
  | 19, _ => rfl
  | 20, _ => rfl
  | 21, _ => rfl
  | 22, _ => rfl
  | 23, _ => rfl
  | 24, _ => rfl
  | 25, _ => rfl
  | 26, _ => rfl
  | 27, _ => rfl
  | 28, _ => rfl
  | 29, _ => rfl
  | 30, _ => rfl
  | 31, _ => rfl
  | 32, _ => rfl
  | 33, _ => rfl
  | 34, _ => rfl
  | 35, _ => rfl
  | n + 36, h => exact absurd h (by omega)
def rs_q (ar : Nat → ClassId) : Nat := ((rs_l ar).map Prod.fst).sum
theorem rs_q_eq : rs_q ar = 101636 := by
  unfold rs_q rs_l
  simp only [List.map_cons, List.map_nil, List.sum_cons, List.sum_nil, Nat.reduceAdd]
theorem mj_pe {a b : mj_S} (h1 : a.1 = b.1) (h2 : a.2.1 = b.2.1) (h3 : a.2.2 = b.2.2) : a = b := by
  obtain ⟨a1, a2, a3⟩ := a
  obtain ⟨b1, b2, b3⟩ := b
  dsimp only at h1 h2 h3
  rw [h1, h2, h3]
theorem rs_fresh {m : Nat} (hσ : ∀ a, σ.2.2 a = none) : mj_ads (mj_add σ 42 (rs_ob σ.1 (rs_0 m).1)) (rs_l ar) = rs_st ar σ.1 (σ.1 + 37) (σ.2.1 + 42 + rs_q ar) (rs_0 m) := by
  have e1 : (mj_ads (mj_add σ 42 (rs_ob σ.1 (rs_0 m).1)) (rs_l ar)).1 = σ.1 + 37 := by
    rw [ads_1, add_1]
    rfl
  have e2 : (mj_ads (mj_add σ 42 (rs_ob σ.1 (rs_0 m).1)) (rs_l ar)).2.1 = σ.2.1 + 42 + rs_q ar := by
    rw [ads_21]
    rfl
  have e3 : (mj_ads (mj_add σ 42 (rs_ob σ.1 (rs_0 m).1)) (rs_l ar)).2.2 = (rs_st ar σ.1 (σ.1 + 37) (σ.2.1 + 42 + rs_q ar) (rs_0 m)).2.2 := by
    funext a
    show _ = if a < σ.1 then none else rs_c ar σ.1 (rs_0 m) (a - σ.1)
    have hl : (rs_l ar).length = 36 := rfl
    by_cases h1 : a < σ.1
    · rw [if_pos h1, ads_old _ _ (by rw [add_1]; omega), add_ne (by omega)]
      exact hσ a
    · rw [if_neg h1]
      by_cases h2 : a = σ.1
      · subst h2
        rw [ads_at0, Nat.sub_self]
        rfl
      · obtain ⟨i, rfl⟩ : ∃ i, a = σ.1 + 1 + i := ⟨a - σ.1 - 1, by omega⟩
        have hs : σ.1 + 1 + i - σ.1 = i + 1 := by omega
        rw [hs]
        unfold rs_c
        rw [if_neg (by omega)]
        by_cases h3 : i < 36
        · have h4 := ads_at (rs_l ar) (mj_add σ 42 (rs_ob σ.1 (rs_0 m).1)) i (by rw [hl]; exact h3)
          rw [add_1] at h4
          rw [h4, rs_near i h3]
        · rw [ads_far _ _ (by rw [add_1, hl]; omega), add_ne (by omega), rs_far _ (by omega)]
          exact hσ _
  exact mj_pe e1 e2 e3
/-- 'new CheapVotesModel(v)' over an empty store -/
theorem R_new {v : Int32} (hσ : ∀ a, σ.2.2 a = none) : mj_wp (tb ar) 87 (mj_en (tb ar) 87 [.ref σ.1, .int v] (mj_add σ 42 rs_d)) Q ↔ Q (.inl none) (rs_st ar σ.1 (σ.1 + 37) (σ.2.1 + 42 + rs_q ar) (rs_0 (rs_m v))) := by
  rw [rn_all, rs_fresh hσ]
end RO
