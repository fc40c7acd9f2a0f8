section CE
variable {ar : Nat → ClassId} {A A' : tg_T → Nat} {s : cs_S} {σ : mj_S} {e e0 : va_E} {w : Nat → Int32} {k i : Nat} {Q : (Option Value ⊕ String) → mj_S → Prop}
/-- another layout of messages alone -/
theorem cs_c_A {n m : Nat} {td : Nat → Bool} {r : Nat → Option Nat} (hA : ∀ k j, k ≠ 30 → A' (k, j) = A (k, j)) (hr : cs_m A' r = cs_m A r) : cs_c ar A' n m td r w i k = cs_c ar A n m td r w i k := by
  have h1 : ∀ N k, k ≠ 30 → cs_1 N A' k = cs_1 N A k := fun N k hk => by
    unfold cs_1
    funext j
    rw [hA k j hk]
  unfold cs_c
  split <;> simp only [hr, hA _ _ (show (1 : Nat) ≠ 30 by decide), hA _ _ (show (2 : Nat) ≠ 30 by decide), hA _ _ (show (3 : Nat) ≠ 30 by decide), hA _ _ (show (4 : Nat) ≠ 30 by decide), hA _ _ (show (5 : Nat) ≠ 30 by decide), hA _ _ (show (6 : Nat) ≠ 30 by decide), hA _ _ (show (7 : Nat) ≠ 30 by decide), hA _ _ (show (8 : Nat) ≠ 30 by decide), hA _ _ (show (10 : Nat) ≠ 30 by decide), hA _ _ (show (11 : Nat) ≠ 30 by decide), hA _ _ (show (12 : Nat) ≠ 30 by decide), hA _ _ (show (14 : Nat) ≠ 30 by decide), hA _ _ (show (15 : Nat) ≠ 30 by decide), hA _ _ (show (16 : Nat) ≠ 30 by decide), hA _ _ (show (17 : Nat) ≠ 30 by decide), hA _ _ (show (18 : Nat) ≠ 30 by decide), hA _ _ (show (19 : Nat) ≠ 30 by decide), hA _ _ (show (20 : Nat) ≠ 30 by decide), hA _ _ (show (21 : Nat) ≠ 30 by decide), hA _ _ (show (22 : Nat) ≠ 30 by decide), hA _ _ (show (23 : Nat) ≠ 30 by decide), hA _ _ (show (24 : Nat) ≠ 30 by decide), hA _ _ (show (25 : Nat) ≠ 30 by decide), hA _ _ (show (26 : Nat) ≠ 30 by decide), hA _ _ (show (27 : Nat) ≠ 30 by decide), hA _ _ (show (28 : Nat) ≠ 30 by decide), hA _ _ (show (29 : Nat) ≠ 30 by decide), hA _ _ (show (31 : Nat) ≠ 30 by decide), hA _ _ (show (32 : Nat) ≠ 30 by decide), hA _ _ (show (33 : Nat) ≠ 30 by decide), h1 _ _ (show (9 : Nat) ≠ 30 by decide), h1 _ _ (show (13 : Nat) ≠ 30 by decide)]
/-- all messages that are named have been made -/
def cs_L (s : cs_S) : Prop := ∀ k j x, cs_r s k j = some x → x < s.2.1
/-- a message is made -/
def cs_mk (s : cs_S) (w : Nat → Int32) : cs_S := (s.1, s.2.1 + 1, (fun i => if i = s.2.1 then false else s.2.2.1 i), s.2.2.2.1, fun k i => if k = 30 ∧ i = s.2.1 then w else s.2.2.2.2 k i)
theorem cs_mk_up (hL : cs_L s) {a : Nat} : cs_h ar (tg_at A (30, s.2.1) a) (cs_mk s w) = tg_up (cs_h ar A s) (30, s.2.1) (.inr (4, [.int (w 0), .int (w 1), .int (w 2), .int (w 3), .int (w 4), .int (w 5), .null])) := by
  funext t
  obtain ⟨k, i⟩ := t
  by_cases ht : (k, i) = (30, s.2.1)
  · cases ht
    rw [tg_ue]
    simp [cs_h, cs_c, cs_mk, cs_v]
  · rw [tg_un ht]
    have hA : ∀ k j, k ≠ 30 → tg_at A (30, s.2.1) a (k, j) = A (k, j) := fun k j hk => tg_an (fun q => hk (congrArg Prod.fst q))
    have hr : ∀ k, cs_m (tg_at A (30, s.2.1) a) (cs_r s k) = cs_m A (cs_r s k) := fun k => by
      unfold cs_m
      funext j
      cases hx : cs_r s k j with
      | none => rfl
      | some x =>
        have := hL k j x hx
        simp only [Option.map_some]
        rw [tg_an (fun q => by have := congrArg Prod.snd q; dsimp only at this; omega)]
    have hv : cs_v (cs_mk s w) k i = cs_v s k i := if_neg (fun q => ht (by rw [q.1, q.2]))
    have hr2 : cs_r (cs_mk s w) k = cs_r s k := rfl
    unfold cs_h
    dsimp only
    rw [cs_c_A hA (by rw [hr2]; exact hr k), hv, hr2]
    by_cases hi : i = s.2.1
    · subst hi
      have hk : k ≠ 30 := fun q => ht (by rw [q])
      unfold cs_c cs_mk
      split <;> first | rfl | (exact absurd rfl hk) | simp
    · have hm : i < s.2.1 + 1 ↔ i < s.2.1 := by omega
      unfold cs_c cs_mk
      split <;> first | rfl | simp [hm, hi]
theorem cs_made (h : tg_R A (cs_h ar A s) σ) (hL : cs_L s) : tg_R (tg_at A (30, s.2.1) σ.1) (cs_h ar (tg_at A (30, s.2.1) σ.1) (cs_mk s w)) (mj_add σ 7 (.inr (4, [.int (w 0), .int (w 1), .int (w 2), .int (w 3), .int (w 4), .int (w 5), .null]))) := by
  rw [cs_mk_up hL]
  refine tg_new h ?_ _ _
  simp [cs_h, cs_c]
end CE
