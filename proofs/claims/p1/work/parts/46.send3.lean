section CG
variable {ar : Nat → ClassId} {A A' : tg_T → Nat} {s : cs_S} {σ : mj_S} {e e0 : va_E} {w : Nat → Int32} {k i : Nat} {Q : (Option Value ⊕ String) → mj_S → Prop}
/-- message x is taken from those to be used again, of which u stay, and filled -/
def cs_reuse (s : cs_S) (u x : Nat) (w : Nat → Int32) : cs_S := cs_u (cs_u s 3 0 (upd (cs_v s 3 0) 3 (nI u))) 30 x w
theorem cs_gm {x : Nat} (h : tg_R A (cs_h ar A s) σ) (hx : x < s.2.1) : σ.2.2 (A (30, x)) = some (.inr (4, [.int (cs_v s 30 x 0), .int (cs_v s 30 x 1), .int (cs_v s 30 x 2), .int (cs_v s 30 x 3), .int (cs_v s 30 x 4), .int (cs_v s 30 x 5), if s.2.2.1 x then .ref (A (31, x)) else .null])) := cs_g (k := 30) (i := x) h (if_pos hx)
theorem cs_reused {x u : Nat} (h : tg_R A (cs_h ar A s) σ) (hx : x < s.2.1) : tg_R A (cs_h ar A (cs_reuse s u x w)) (mj_up (mj_up σ (A (3, 0)) (.inr (2, [.ref (A (4, 0)), .ref (A (6, 0)), .ref (A (8, 0)), .int (nI u), .int (cs_v s 3 0 4)]))) (A (30, x)) (.inr (4, [.int (w 0), .int (w 1), .int (w 2), .int (w 3), .int (w 4), .int (w 5), if s.2.2.1 x then .ref (A (31, x)) else .null]))) := by
  refine cs_set (e0 := _) (cs_set (e0 := _) (k := 3) h rfl ?_) (if_pos hx) (if_pos hx)
  show some (Sum.inr (2, [Value.ref (A (4, 0)), Value.ref (A (6, 0)), Value.ref (A (8, 0)), Value.int (upd (cs_v s 3 0) 3 (nI u) 3), Value.int (upd (cs_v s 3 0) 3 (nI u) 4)])) = _
  rw [w_set_at, w_set_ne (by decide)]
theorem C_send_used {hd n u x : Nat} {a b c d e f : Int32} (h : tg_R A (cs_h ar A s) σ) (hL : cs_L s) (hu : cs_v s 3 0 3 = nI (u + 1)) (hu6 : u < 601) (hx : cs_r s 8 u = some x) (hh : cs_v s (cs_kq a b) 0 1 = nI hd) (hd3 : hd < 300) (hn : cs_v s (cs_kq a b) 0 2 = nI n) (h3 : n < 300) (hQ : ∀ τ, cs_n σ τ → tg_R A (cs_h ar A (cs_push (cs_reuse s u x (cs_six a b c d e f)) (cs_kq a b) hd n x)) τ → Q (.inl (some (.ref (A (30, x))))) τ) : mj_wp (tb ar) 17 (mj_en (tb ar) 17 [.ref (A (3, 0)), .int a, .int b, .int c, .int d, .int e, .int f] σ) Q := by
  have g3 := cs_g (k := 3) (i := 0) h rfl
  have g8 : σ.2.2 (A (8, 0)) = some (.inl (ar 6, 601, .inr (.inr (.inr (.inr (cs_m A (cs_r s 8))))))) := cs_g (k := 8) (i := 0) h rfl
  have gq := cs_gq (cs_kq_or (a := a) (b := b)) h
  have gr := cs_gr (cs_kq_or (a := a) (b := b)) h
  have gx := cs_gm h (hL 8 u x hx)
  have gu : cs_m A (cs_r s 8) u = some (A (30, x)) := by
    unfold cs_m
    rw [hx]
    rfl
  rw [hu] at g3
  rw [hh, hn, ← cs_kq_s (A := A)] at gq
  rw [s_used g3 g8 hu6 gu gx gq gr hd3 h3, cs_kq_s]
  refine hQ _ ⟨rfl, rfl⟩ ?_
  have k1 : ¬ cs_kq a b = 30 := by rcases cs_kq_or (a := a) (b := b) with q | q <;> rw [q] <;> decide
  have k3 : ¬ cs_kq a b = 3 := by rcases cs_kq_or (a := a) (b := b) with q | q <;> rw [q] <;> decide
  have hv : cs_v (cs_reuse s u x (cs_six a b c d e f)) (cs_kq a b) 0 1 = nI hd := by
    unfold cs_reuse
    rw [cs_u_ne (fun q => k1 q.1), cs_u_ne (fun q => k3 q.1), hh]
  have h1 := cs_reused (u := u) (w := cs_six a b c d e f) h (hL 8 u x hx)
  exact cs_pushed (n := n) (x := x) (cs_kq_or (a := a) (b := b)) h1 hv
end CG
