section CH
variable {ar : Nat → ClassId} {A A' : tg_T → Nat} {s : cs_S} {σ : mj_S} {e e0 : va_E} {w : Nat → Int32} {k i : Nat} {Q : (Option Value ⊕ String) → mj_S → Prop}
/-- a queue: its head, its size, no hole -/
def cs_Q (s : cs_S) (k hd n : Nat) : Prop := cs_v s k 0 1 = nI hd ∧ hd < 300 ∧ cs_v s k 0 2 = nI n ∧ n ≤ 300 ∧ ∀ i, i < n → ∃ x, cs_r s (k + 1) ((hd + i) % 300) = some x
/-- the mail, with g messages in hand -/
def cs_M (s : cs_S) (g : Nat) : Prop := cs_L s ∧ ∃ h4 n4 h6 n6 u, cs_Q s 4 h4 n4 ∧ cs_Q s 6 h6 n6 ∧ cs_v s 3 0 3 = nI u ∧ (∀ j, j < u → ∃ x, cs_r s 8 j = some x) ∧ n4 + n6 + u + g = s.2.1 ∧ s.2.1 ≤ 601
def cs_N (s : cs_S) (k j : Nat) : Nat := (cs_v s k 0 j).toNatClampNeg
def cs_send (s : cs_S) (a b c d e f : Int32) : cs_S × Option Nat :=
  if 300 ≤ cs_N s (cs_kq a b) 2 then (cs_u s 3 0 (upd (cs_v s 3 0) 4 (cs_v s 3 0 4 + 1)), none)
  else if cs_N s 3 3 = 0 then (cs_push (cs_mk s (cs_six a b c d e f)) (cs_kq a b) (cs_N s (cs_kq a b) 1) (cs_N s (cs_kq a b) 2) s.2.1, some s.2.1)
  else match cs_r s 8 (cs_N s 3 3 - 1) with
    | some x => (cs_push (cs_reuse s (cs_N s 3 3 - 1) x (cs_six a b c d e f)) (cs_kq a b) (cs_N s (cs_kq a b) 1) (cs_N s (cs_kq a b) 2) x, some x)
    | none => (s, none)
def cs_o (A : tg_T → Nat) : Option Nat → Value
  | none => .null
  | some x => .ref (A (30, x))
theorem cs_Nv {j n : Nat} (h : cs_v s k 0 j = nI n) (hn : n < 2 ^ 31) : cs_N s k j = n := by
  unfold cs_N
  rw [h, nI_clamp hn]
theorem cs_Mq {g : Nat} {a b : Int32} (hM : cs_M s g) : ∃ hd n, cs_Q s (cs_kq a b) hd n := by
  obtain ⟨-, h4, n4, h6, n6, u, q4, q6, -⟩ := hM
  unfold cs_kq
  split
  · exact ⟨h6, n6, q6⟩
  · exact ⟨h4, n4, q4⟩
theorem C_send {g : Nat} {a b c d e f : Int32} (h : tg_R A (cs_h ar A s) σ) (hM : cs_M s g) (hQ : ∀ A' τ, (∀ t, t ≠ (30, s.2.1) → A' t = A t) → τ.1 + s.2.1 = σ.1 + (cs_send s a b c d e f).1.2.1 → τ.2.1 + 7 * s.2.1 = σ.2.1 + 7 * (cs_send s a b c d e f).1.2.1 → tg_R A' (cs_h ar A' (cs_send s a b c d e f).1) τ → Q (.inl (some (cs_o A' (cs_send s a b c d e f).2))) τ) : mj_wp (tb ar) 17 (mj_en (tb ar) 17 [.ref (A (3, 0)), .int a, .int b, .int c, .int d, .int e, .int f] σ) Q := by
  obtain ⟨hd, n, q1, q2, q3, q4, q5⟩ := cs_Mq (a := a) (b := b) hM
  obtain ⟨hL, h4, n4, h6, n6, u, _, _, hu, hun, hc, hm⟩ := hM
  have N1 := cs_Nv q1 (by omega)
  have N2 := cs_Nv q3 (by omega)
  have N3 := cs_Nv hu (by omega)
  by_cases hf : 300 ≤ n
  · have es : cs_send s a b c d e f = (cs_u s 3 0 (upd (cs_v s 3 0) 4 (cs_v s 3 0 4 + 1)), none) := by
      unfold cs_send
      rw [N2, if_pos hf]
    rw [es] at hQ
    exact C_send_full h q3 hf (by omega) (fun τ hn hτ => hQ A τ (fun _ _ => rfl) (by rw [hn.1]; rfl) (by rw [hn.2]; rfl) hτ)
  · cases u with
    | zero =>
      have es : cs_send s a b c d e f = (cs_push (cs_mk s (cs_six a b c d e f)) (cs_kq a b) hd n s.2.1, some s.2.1) := by
        unfold cs_send
        rw [N2, if_neg hf, N3, if_pos rfl, N1]
      rw [es] at hQ
      refine C_send_new h hL hu q1 q2 q3 (by omega) (fun hτ => ?_)
      have q := hQ (tg_at A (30, s.2.1) σ.1) _ (fun t ht => tg_an ht) ?_ ?_ hτ
      · rw [show cs_o (tg_at A (30, s.2.1) σ.1) (some s.2.1) = Value.ref σ.1 from congrArg Value.ref tg_ae] at q
        exact q
      · show σ.1 + 1 + s.2.1 = σ.1 + (s.2.1 + 1)
        omega
      · show σ.2.1 + 7 + 7 * s.2.1 = σ.2.1 + 7 * (s.2.1 + 1)
        omega
    | succ v =>
      obtain ⟨x, hx⟩ := hun v (by omega)
      have es : cs_send s a b c d e f = (cs_push (cs_reuse s v x (cs_six a b c d e f)) (cs_kq a b) hd n x, some x) := by
        unfold cs_send
        rw [N2, if_neg hf, N3, if_neg (by omega), N1, Nat.add_sub_cancel, hx]
      rw [es] at hQ
      exact C_send_used h hL hu (by omega) hx q1 q2 q3 (by omega) (fun τ hn hτ => hQ A τ (fun _ _ => rfl) (by rw [hn.1]; rfl) (by rw [hn.2]; rfl) hτ)
end CH
