section CL
variable {ar : Nat → ClassId} {A A' : tg_T → Nat} {s s' : cs_S} {σ : mj_S} {e e0 : va_E} {w : Nat → Int32} {k i x : Nat} {Q : (Option Value ⊕ String) → mj_S → Prop}
/-- message x gets a Row -/
def cs_rm (s : cs_S) (x : Nat) : cs_S := (s.1, s.2.1, (fun i => if i = x then true else s.2.2.1 i), s.2.2.2.1, fun k i => if 31 ≤ k ∧ k ≤ 33 ∧ i = x then (fun _ => 0) else s.2.2.2.2 k i)
def cs_A3 (A : tg_T → Nat) (x a : Nat) : tg_T → Nat := tg_at (tg_at (tg_at A (31, x) a) (32, x) (a + 1)) (33, x) (a + 2)
theorem A3_31 {a : Nat} : cs_A3 A x a (31, x) = a := by
  unfold cs_A3
  rw [tg_an (by simp), tg_an (by simp), tg_ae]
theorem A3_32 {a : Nat} : cs_A3 A x a (32, x) = a + 1 := by
  unfold cs_A3
  rw [tg_an (by simp), tg_ae]
theorem A3_33 {a : Nat} : cs_A3 A x a (33, x) = a + 2 := by
  unfold cs_A3
  rw [tg_ae]
theorem A3_ne {a : Nat} {t : tg_T} (h1 : t ≠ (31, x)) (h2 : t ≠ (32, x)) (h3 : t ≠ (33, x)) : cs_A3 A x a t = A t := by
  unfold cs_A3
  rw [tg_an h3, tg_an h2, tg_an h1]
theorem A3_lt {a k j : Nat} (h : k < 31) : cs_A3 A x a (k, j) = A (k, j) := A3_ne (fun q => by have := congrArg Prod.fst q; dsimp only at this; omega) (fun q => by have := congrArg Prod.fst q; dsimp only at this; omega) (fun q => by have := congrArg Prod.fst q; dsimp only at this; omega)
theorem A3_i {a k j : Nat} (h : j ≠ x) : cs_A3 A x a (k, j) = A (k, j) := A3_ne (fun q => h (congrArg Prod.snd q)) (fun q => h (congrArg Prod.snd q)) (fun q => h (congrArg Prod.snd q))
theorem cs_rm_up {a : Nat} {e1 : va_E} (hx : x < s.2.1) : cs_h ar (cs_A3 A x a) (cs_rm s x) = tg_up (tg_up (tg_up (tg_up (tg_up (cs_h ar A s) (31, x) e1) (32, x) (w_ia ar 100 (fun _ => 0))) (33, x) (w_ia ar 100 (fun _ => 0))) (31, x) (.inr (7, [.ref (a + 1), .ref (a + 2), .int 0, .int 0]))) (30, x) (.inr (4, [.int (cs_v s 30 x 0), .int (cs_v s 30 x 1), .int (cs_v s 30 x 2), .int (cs_v s 30 x 3), .int (cs_v s 30 x 4), .int (cs_v s 30 x 5), .ref a])) := by
  funext t
  obtain ⟨k, i⟩ := t
  by_cases h30 : (k, i) = (30, x)
  · cases h30
    rw [tg_ue]
    simp [cs_h, cs_c, cs_rm, cs_v, hx, A3_31]
  · rw [tg_un h30]
    by_cases h31 : (k, i) = (31, x)
    · cases h31
      rw [tg_ue]
      simp [cs_h, cs_c, cs_rm, cs_v, hx, A3_32, A3_33]
    · rw [tg_un h31]
      by_cases h33 : (k, i) = (33, x)
      · cases h33
        rw [tg_ue]
        simp [cs_h, cs_c, cs_rm, cs_v, hx]
      · rw [tg_un h33]
        by_cases h32 : (k, i) = (32, x)
        · cases h32
          rw [tg_ue]
          simp [cs_h, cs_c, cs_rm, cs_v, hx]
        · rw [tg_un h32, tg_un h31]
          have hne : k < 30 ∨ 33 < k ∨ i ≠ x := by
            by_cases hi : i = x
            · subst hi
              have a0 : k ≠ 30 := fun q => h30 (by rw [q])
              have a1 : k ≠ 31 := fun q => h31 (by rw [q])
              have a2 : k ≠ 32 := fun q => h32 (by rw [q])
              have a3 : k ≠ 33 := fun q => h33 (by rw [q])
              omega
            · exact Or.inr (Or.inr hi)
          have hv : cs_v (cs_rm s x) k i = cs_v s k i := if_neg (fun q => by omega)
          unfold cs_h
          dsimp only
          rw [hv]
          rcases hne with h | h | h
          · exact cs_c_B (fun k j hk => A3_lt hk) (Or.inl h)
          · have e : ∀ (A : tg_T → Nat) (n m : Nat) (td : Nat → Bool) (r : Nat → Option Nat) (w : Nat → Int32), cs_c ar A n m td r w i k = none := by
              intro A n m td r w
              unfold cs_c
              split <;> first | rfl | (exact absurd h (by decide))
            rw [e, e]
          · exact cs_c_B (fun k j hk => A3_lt hk) (Or.inr ⟨A3_i h, A3_i h, A3_i h, if_neg h⟩)
theorem mL_24 : mj_mL (tb ar) 24 = 1 := rfl
/-- Message.room where there is none -/
theorem C_room0 (h : tg_R A (cs_h ar A s) σ) (hx : x < s.2.1) (ht : s.2.2.1 x = false) (hQ : ∀ τ, τ.1 = σ.1 + 3 → τ.2.1 = σ.2.1 + 204 → tg_R (cs_A3 A x σ.1) (cs_h ar (cs_A3 A x σ.1) (cs_rm s x)) τ → Q (.inl (some (.ref (cs_A3 A x σ.1 (31, x))))) τ) : mj_wp (tb ar) 24 (mj_en (tb ar) 24 [.ref (A (30, x))] σ) Q := by
  have gx := cs_gm h hx
  rw [ht] at gx
  have hlt : A (30, x) < σ.1 := tg_lt (t := (30, x)) h (if_pos hx)
  rw [m_room0 gx hlt]
  rw [A3_31] at hQ
  refine hQ _ rfl ?_ ?_
  · show σ.2.1 + 4 + 100 + 100 = σ.2.1 + 204
    omega
  have n31 : cs_h ar A s (31, x) = none := by simp [cs_h, cs_c, ht]
  have n32 : cs_h ar A s (32, x) = none := by simp [cs_h, cs_c, ht]
  have n33 : cs_h ar A s (33, x) = none := by simp [cs_h, cs_c, ht]
  have h1 := tg_new (t := (31, x)) h n31 4 (.inr (7, [.null, .null, .int 0, .int 0]))
  have h2 := tg_new (t := (32, x)) h1 (by rw [tg_un (by simp)]; exact n32) 100 (w_ia ar 100 (fun _ => 0))
  have h3 := tg_new (t := (33, x)) h2 (by rw [tg_un (by simp), tg_un (by simp)]; exact n33) 100 (w_ia ar 100 (fun _ => 0))
  have h4 := tg_set (t := (31, x)) h3 (by rw [tg_un (by simp), tg_un (by simp), tg_ue]) (.inr (7, [.ref (σ.1 + 1), .ref (σ.1 + 2), .int 0, .int 0]))
  have h5 := tg_set (t := (30, x)) h4 (by rw [tg_un (by simp), tg_un (by simp), tg_un (by simp), tg_un (by simp)]; exact if_pos hx) (.inr (4, [.int (cs_v s 30 x 0), .int (cs_v s 30 x 1), .int (cs_v s 30 x 2), .int (cs_v s 30 x 3), .int (cs_v s 30 x 4), .int (cs_v s 30 x 5), .ref σ.1]))
  have h6 := tg_eq h5 (cs_rm_up (a := σ.1) hx)
  have e31 : tg_at (tg_at (tg_at A (31, x) σ.1) (32, x) (mj_add σ 4 (.inr (7, [.null, .null, .int 0, .int 0]))).1) (33, x) (mj_add (mj_add σ 4 (.inr (7, [.null, .null, .int 0, .int 0]))) 100 (w_ia ar 100 (fun _ => 0))).1 (31, x) = σ.1 := A3_31 (A := A) (a := σ.1)
  have e30 : tg_at (tg_at (tg_at A (31, x) σ.1) (32, x) (mj_add σ 4 (.inr (7, [.null, .null, .int 0, .int 0]))).1) (33, x) (mj_add (mj_add σ 4 (.inr (7, [.null, .null, .int 0, .int 0]))) 100 (w_ia ar 100 (fun _ => 0))).1 (30, x) = A (30, x) := A3_lt (A := A) (a := σ.1) (by decide)
  rw [e31, e30] at h6
  exact h6
theorem C_room1 (h : tg_R A (cs_h ar A s) σ) (hx : x < s.2.1) (ht : s.2.2.1 x = true) : mj_wp (tb ar) 24 (mj_en (tb ar) 24 [.ref (A (30, x))] σ) Q ↔ Q (.inl (some (.ref (A (31, x))))) σ := by
  have gx := cs_gm h hx
  rw [ht] at gx
  exact m_room gx
end CL
