section CK
variable {ar : Nat → ClassId} {A A' : tg_T → Nat} {s s' : cs_S} {σ : mj_S} {e e0 : va_E} {w : Nat → Int32} {k i x : Nat} {Q : (Option Value ⊕ String) → mj_S → Prop}
/-- another layout of the messages' Rows alone -/
theorem cs_c_B {n m : Nat} {td td' : Nat → Bool} {r : Nat → Option Nat} (hA : ∀ k j, k < 31 → A' (k, j) = A (k, j)) (hk : k < 30 ∨ (A' (31, i) = A (31, i) ∧ A' (32, i) = A (32, i) ∧ A' (33, i) = A (33, i) ∧ td' i = td i)) : cs_c ar A' n m td' r w i k = cs_c ar A n m td r w i k := by
  have h1 : ∀ N k, k < 31 → cs_1 N A' k = cs_1 N A k := fun N k hk => by
    unfold cs_1
    funext j
    rw [hA k j hk]
  have hr : cs_m A' r = cs_m A r := by
    unfold cs_m
    funext j
    cases r j with
    | none => rfl
    | some y => simp only [Option.map_some]; rw [hA 30 y (by decide)]
  rcases hk with hk | ⟨b1, b2, b3, b4⟩
  · unfold cs_c
    split <;> first | rfl | (simp only [hr, hA _ _ (show (1 : Nat) < 31 by decide), hA _ _ (show (2 : Nat) < 31 by decide), hA _ _ (show (3 : Nat) < 31 by decide), hA _ _ (show (4 : Nat) < 31 by decide), hA _ _ (show (5 : Nat) < 31 by decide), hA _ _ (show (6 : Nat) < 31 by decide), hA _ _ (show (7 : Nat) < 31 by decide), hA _ _ (show (8 : Nat) < 31 by decide), hA _ _ (show (9 : Nat) < 31 by decide), hA _ _ (show (10 : Nat) < 31 by decide), hA _ _ (show (11 : Nat) < 31 by decide), hA _ _ (show (12 : Nat) < 31 by decide), hA _ _ (show (13 : Nat) < 31 by decide), hA _ _ (show (14 : Nat) < 31 by decide), hA _ _ (show (15 : Nat) < 31 by decide), hA _ _ (show (16 : Nat) < 31 by decide), hA _ _ (show (17 : Nat) < 31 by decide), hA _ _ (show (18 : Nat) < 31 by decide), hA _ _ (show (19 : Nat) < 31 by decide), hA _ _ (show (20 : Nat) < 31 by decide), hA _ _ (show (21 : Nat) < 31 by decide), hA _ _ (show (22 : Nat) < 31 by decide), hA _ _ (show (23 : Nat) < 31 by decide), hA _ _ (show (24 : Nat) < 31 by decide), hA _ _ (show (25 : Nat) < 31 by decide), hA _ _ (show (26 : Nat) < 31 by decide), hA _ _ (show (27 : Nat) < 31 by decide), hA _ _ (show (28 : Nat) < 31 by decide), hA _ _ (show (29 : Nat) < 31 by decide), hA _ _ (show (30 : Nat) < 31 by decide), h1 _ _ (show (9 : Nat) < 31 by decide), h1 _ _ (show (13 : Nat) < 31 by decide)]; done) | (exact absurd hk (by decide)) | (exact absurd hk (by omega))
  · unfold cs_c
    split <;> first | rfl | (simp only [hr, b1, b2, b3, b4, hA _ _ (show (1 : Nat) < 31 by decide), hA _ _ (show (2 : Nat) < 31 by decide), hA _ _ (show (3 : Nat) < 31 by decide), hA _ _ (show (4 : Nat) < 31 by decide), hA _ _ (show (5 : Nat) < 31 by decide), hA _ _ (show (6 : Nat) < 31 by decide), hA _ _ (show (7 : Nat) < 31 by decide), hA _ _ (show (8 : Nat) < 31 by decide), hA _ _ (show (9 : Nat) < 31 by decide), hA _ _ (show (10 : Nat) < 31 by decide), hA _ _ (show (11 : Nat) < 31 by decide), hA _ _ (show (12 : Nat) < 31 by decide), hA _ _ (show (13 : Nat) < 31 by decide), hA _ _ (show (14 : Nat) < 31 by decide), hA _ _ (show (15 : Nat) < 31 by decide), hA _ _ (show (16 : Nat) < 31 by decide), hA _ _ (show (17 : Nat) < 31 by decide), hA _ _ (show (18 : Nat) < 31 by decide), hA _ _ (show (19 : Nat) < 31 by decide), hA _ _ (show (20 : Nat) < 31 by decide), hA _ _ (show (21 : Nat) < 31 by decide), hA _ _ (show (22 : Nat) < 31 by decide), hA _ _ (show (23 : Nat) < 31 by decide), hA _ _ (show (24 : Nat) < 31 by decide), hA _ _ (show (25 : Nat) < 31 by decide), hA _ _ (show (26 : Nat) < 31 by decide), hA _ _ (show (27 : Nat) < 31 by decide), hA _ _ (show (28 : Nat) < 31 by decide), hA _ _ (show (29 : Nat) < 31 by decide), hA _ _ (show (30 : Nat) < 31 by decide), h1 _ _ (show (9 : Nat) < 31 by decide), h1 _ _ (show (13 : Nat) < 31 by decide)]; done)
end CK
