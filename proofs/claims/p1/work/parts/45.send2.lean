section CF
variable {ar : Nat → ClassId} {A A' : tg_T → Nat} {s : cs_S} {σ : mj_S} {e e0 : va_E} {w : Nat → Int32} {k i : Nat} {Q : (Option Value ⊕ String) → mj_S → Prop}
theorem cs_m_up {r : Nat → Option Nat} {p x : Nat} : cs_m A (va_up r p (some x)) = va_up (cs_m A r) p (some (A (30, x))) := by
  funext j
  unfold cs_m va_up
  split <;> rfl
/-- a message goes behind all in a queue -/
def cs_push (s : cs_S) (k hd n x : Nat) : cs_S := cs_u (cs_ur s (k + 1) (va_up (cs_r s (k + 1)) ((hd + n) % 300) (some x))) k 0 (upd (cs_v s k 0) 2 (nI (n + 1)))
theorem cs_gq (hk : k = 4 ∨ k = 6) (h : tg_R A (cs_h ar A s) σ) : σ.2.2 (A (k, 0)) = some (.inr (6, [.ref (A (k + 1, 0)), .int (cs_v s k 0 1), .int (cs_v s k 0 2)])) := by
  rcases hk with rfl | rfl
  · exact cs_g (k := 4) (i := 0) h rfl
  · exact cs_g (k := 6) (i := 0) h rfl
theorem cs_gr (hk : k = 4 ∨ k = 6) (h : tg_R A (cs_h ar A s) σ) : σ.2.2 (A (k + 1, 0)) = some (q_ar ar (cs_m A (cs_r s (k + 1)))) := by
  rcases hk with rfl | rfl
  · exact cs_g (k := 5) (i := 0) h rfl
  · exact cs_g (k := 7) (i := 0) h rfl
theorem cs_pushed {hd n x : Nat} (hk : k = 4 ∨ k = 6) (h : tg_R A (cs_h ar A s) σ) (hh : cs_v s k 0 1 = nI hd) : tg_R A (cs_h ar A (cs_push s k hd n x)) (mj_up (mj_up σ (A (k + 1, 0)) (q_ar ar (va_up (cs_m A (cs_r s (k + 1))) ((hd + n) % 300) (some (A (30, x)))))) (A (k, 0)) (.inr (6, [.ref (A (k + 1, 0)), .int (nI hd), .int (nI (n + 1))]))) := by
  rw [← hh]
  unfold cs_push
  rcases hk with rfl | rfl
  · refine cs_set (e0 := _) (cs_setr (k := 5) h (by simp) rfl ?_) rfl ?_
    · show some (cs_rf ar 6 300 _) = _
      rw [cs_m_up]
      rfl
    · show some (Sum.inr (6, [Value.ref (A (5, 0)), Value.int (upd (cs_v s 4 0) 2 (nI (n + 1)) 1), Value.int (upd (cs_v s 4 0) 2 (nI (n + 1)) 2)])) = _
      rw [w_set_at, w_set_ne (by decide)]
  · refine cs_set (e0 := _) (cs_setr (k := 7) h (by simp) rfl ?_) rfl ?_
    · show some (cs_rf ar 6 300 _) = _
      rw [cs_m_up]
      rfl
    · show some (Sum.inr (6, [Value.ref (A (7, 0)), Value.int (upd (cs_v s 6 0) 2 (nI (n + 1)) 1), Value.int (upd (cs_v s 6 0) 2 (nI (n + 1)) 2)])) = _
      rw [w_set_at, w_set_ne (by decide)]
/-- the queue of a message: its kind -/
def cs_kq (a b : Int32) : Nat := if a = b then 6 else 4
theorem cs_kq_or {a b : Int32} : cs_kq a b = 4 ∨ cs_kq a b = 6 := by
  unfold cs_kq
  split
  · exact Or.inr rfl
  · exact Or.inl rfl
theorem cs_kq_s {a b : Int32} : s_q (A (4, 0)) (A (6, 0)) a b = A (cs_kq a b, 0) := by
  unfold s_q cs_kq
  split <;> rfl
def cs_six (a b c d e f : Int32) : Nat → Int32
  | 0 => a
  | 1 => b
  | 2 => c
  | 3 => d
  | 4 => e
  | _ => f
theorem C_send_full {n : Nat} {a b c d e f : Int32} (h : tg_R A (cs_h ar A s) σ) (hn : cs_v s (cs_kq a b) 0 2 = nI n) (h3 : 300 ≤ n) (hn' : n < 2 ^ 31) (hQ : ∀ τ, cs_n σ τ → tg_R A (cs_h ar A (cs_u s 3 0 (upd (cs_v s 3 0) 4 (cs_v s 3 0 4 + 1)))) τ → Q (.inl (some .null)) τ) : mj_wp (tb ar) 17 (mj_en (tb ar) 17 [.ref (A (3, 0)), .int a, .int b, .int c, .int d, .int e, .int f] σ) Q := by
  have g3 := cs_g (k := 3) (i := 0) h rfl
  have gq := cs_gq (cs_kq_or (a := a) (b := b)) h
  rw [hn, ← cs_kq_s (A := A)] at gq
  rw [s_full g3 gq h3 hn']
  refine hQ _ ⟨rfl, rfl⟩ (cs_set (e0 := _) h rfl ?_)
  show some (Sum.inr (2, [Value.ref (A (4, 0)), Value.ref (A (6, 0)), Value.ref (A (8, 0)), Value.int (upd (cs_v s 3 0) 4 (cs_v s 3 0 4 + 1) 3), Value.int (upd (cs_v s 3 0) 4 (cs_v s 3 0 4 + 1) 4)])) = _
  rw [w_set_at, w_set_ne (by decide)]
theorem C_send_new {hd n : Nat} {a b c d e f : Int32} (h : tg_R A (cs_h ar A s) σ) (hL : cs_L s) (hu : cs_v s 3 0 3 = nI 0) (hh : cs_v s (cs_kq a b) 0 1 = nI hd) (hd3 : hd < 300) (hn : cs_v s (cs_kq a b) 0 2 = nI n) (h3 : n < 300) (hQ : tg_R (tg_at A (30, s.2.1) σ.1) (cs_h ar (tg_at A (30, s.2.1) σ.1) (cs_push (cs_mk s (cs_six a b c d e f)) (cs_kq a b) hd n s.2.1)) (mj_up (mj_up (mj_add σ 7 (.inr (4, [.int a, .int b, .int c, .int d, .int e, .int f, .null]))) (A (cs_kq a b + 1, 0)) (q_ar ar (va_up (cs_m A (cs_r s (cs_kq a b + 1))) ((hd + n) % 300) (some σ.1)))) (A (cs_kq a b, 0)) (.inr (6, [.ref (A (cs_kq a b + 1, 0)), .int (nI hd), .int (nI (n + 1))]))) → Q (.inl (some (.ref σ.1))) (mj_up (mj_up (mj_add σ 7 (.inr (4, [.int a, .int b, .int c, .int d, .int e, .int f, .null]))) (A (cs_kq a b + 1, 0)) (q_ar ar (va_up (cs_m A (cs_r s (cs_kq a b + 1))) ((hd + n) % 300) (some σ.1)))) (A (cs_kq a b, 0)) (.inr (6, [.ref (A (cs_kq a b + 1, 0)), .int (nI hd), .int (nI (n + 1))])))) : mj_wp (tb ar) 17 (mj_en (tb ar) 17 [.ref (A (3, 0)), .int a, .int b, .int c, .int d, .int e, .int f] σ) Q := by
  have g3 := cs_g (k := 3) (i := 0) h rfl
  have gq := cs_gq (cs_kq_or (a := a) (b := b)) h
  have gr := cs_gr (cs_kq_or (a := a) (b := b)) h
  rw [hu] at g3
  rw [hh, hn] at gq
  have nq : A (cs_kq a b, 0) ≠ σ.1 := by
    rcases cs_kq_or (a := a) (b := b) with q | q
    · rw [q]; exact tg_nf (t := (4, 0)) h rfl
    · rw [q]; exact tg_nf (t := (6, 0)) h rfl
  have nr : A (cs_kq a b + 1, 0) ≠ σ.1 := by
    rcases cs_kq_or (a := a) (b := b) with q | q
    · rw [q]; exact tg_nf (t := (5, 0)) h rfl
    · rw [q]; exact tg_nf (t := (7, 0)) h rfl
  rw [← cs_kq_s (A := A)] at gq nq
  rw [s_new nq nr g3 gq gr hd3 h3, cs_kq_s]
  apply hQ
  have h1 := cs_made (w := cs_six a b c d e f) h hL
  have hk : ∀ k, k ≠ 30 → tg_at A (30, s.2.1) σ.1 (k, 0) = A (k, 0) := fun k hk => tg_an (fun q => hk (congrArg Prod.fst q))
  have k1 : cs_kq a b ≠ 30 := by rcases cs_kq_or (a := a) (b := b) with q | q <;> rw [q] <;> decide
  have k2 : cs_kq a b + 1 ≠ 30 := by rcases cs_kq_or (a := a) (b := b) with q | q <;> rw [q] <;> decide
  have hv : cs_v (cs_mk s (cs_six a b c d e f)) (cs_kq a b) 0 1 = nI hd := by
    rw [← hh]
    show (if cs_kq a b = 30 ∧ 0 = s.2.1 then _ else cs_v s (cs_kq a b) 0) 1 = _
    rw [if_neg (fun q => k1 q.1)]
  have h2 := cs_pushed (n := n) (x := s.2.1) (cs_kq_or (a := a) (b := b)) h1 hv
  rw [hk _ k1, hk _ k2, tg_ae] at h2
  have hr : cs_m (tg_at A (30, s.2.1) σ.1) (cs_r (cs_mk s (cs_six a b c d e f)) (cs_kq a b + 1)) = cs_m A (cs_r s (cs_kq a b + 1)) := by
    unfold cs_m
    funext j
    show Option.map _ (cs_r s (cs_kq a b + 1) j) = _
    cases hx : cs_r s (cs_kq a b + 1) j with
    | none => rfl
    | some x =>
      have := hL _ j x hx
      simp only [Option.map_some]
      rw [tg_an (fun q => by have := congrArg Prod.snd q; dsimp only at this; omega)]
  rw [hr] at h2
  exact h2
end CF
