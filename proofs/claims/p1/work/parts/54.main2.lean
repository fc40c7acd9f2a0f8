section CO
variable {ar : Nat → ClassId} {A A' : tg_T → Nat} {s s' : cs_S} {σ : mj_S} {e e0 : va_E} {w : Nat → Int32} {k i x : Nat} {Q : (Option Value ⊕ String) → mj_S → Prop}
/-- what waits: its row, size, how many of them take mains out -/
def cs_wt (s : cs_S) (i : Nat) (f : Nat → Int32) (n g : Int32) : cs_S := cs_u (cs_u s 19 i f) 18 i (upd (upd (cs_v s 18 i) 1 n) 2 g)
theorem cs_wt_set {f : Nat → Int32} {n g : Int32} (h : tg_R A (cs_h ar A s) σ) (hi : i < s.1) : tg_R A (cs_h ar A (cs_wt s i f n g)) (mj_up (mj_up σ (A (19, i)) (w_ia ar 25 f)) (A (18, i)) (.inr (8, [.ref (A (19, i)), .int n, .int g]))) := by
  refine cs_set (k := 18) (i := i) (e0 := _) (cs_set (k := 19) (i := i) h (if_pos hi) (if_pos hi)) (if_pos hi) ?_
  refine (if_pos hi).trans ?_
  rw [w_set_at, w_set_ne (by decide), w_set_at]
theorem C_last {n : Nat} {y : Int32} (h : tg_R A (cs_h ar A s) σ) (hi : i < s.1) (hn : cs_v s 18 i 1 = nI n) (h25 : n < 25) (hQ : ∀ τ, cs_n σ τ → tg_R A (cs_h ar A (cs_wt s i (upd (cs_v s 19 i) n y) (nI (n + 1)) (cs_v s 18 i 2))) τ → Q (.inl none) τ) : mj_wp (tb ar) 37 (mj_en (tb ar) 37 [.ref (A (18, i)), .int y] σ) Q := by
  have g := cs_g (k := 18) h (if_pos hi)
  rw [hn] at g
  rw [z_last g (cs_g (k := 19) h (if_pos hi)) h25]
  exact hQ _ ⟨rfl, rfl⟩ (cs_wt_set h hi)
theorem C_going {n go : Nat} {y : Int32} (h : tg_R A (cs_h ar A s) σ) (hi : i < s.1) (hn : cs_v s 18 i 1 = nI n) (hg : cs_v s 18 i 2 = nI go) (h25 : n < 25) (hgn : go ≤ n) (hQ : ∀ τ, cs_n σ τ → tg_R A (cs_h ar A (cs_wt s i (upd (z_up go (n - go) (cs_v s 19 i)) go y) (nI (n + 1)) (nI (go + 1)))) τ → Q (.inl none) τ) : mj_wp (tb ar) 38 (mj_en (tb ar) 38 [.ref (A (18, i)), .int y] σ) Q := by
  have g := cs_g (k := 18) h (if_pos hi)
  rw [hn, hg] at g
  rw [z_going g (cs_g (k := 19) h (if_pos hi)) h25 hgn]
  exact hQ _ ⟨rfl, rfl⟩ (cs_wt_set h hi)
theorem C_first {n go : Nat} (h : tg_R A (cs_h ar A s) σ) (hi : i < s.1) (hn : cs_v s 18 i 1 = nI (n + 1)) (hg : cs_v s 18 i 2 = nI go) (h25 : n < 25) (hgn : go ≤ n + 1) (hQ : ∀ τ, cs_n σ τ → tg_R A (cs_h ar A (cs_wt s i (z_dn (cs_v s 19 i) n) (nI n) (nI (go - 1)))) τ → Q (.inl (some (.int (cs_v s 19 i 0)))) τ) : mj_wp (tb ar) 39 (mj_en (tb ar) 39 [.ref (A (18, i))] σ) Q := by
  have g := cs_g (k := 18) h (if_pos hi)
  rw [hn, hg] at g
  rw [z_take g (cs_g (k := 19) h (if_pos hi)) h25 hgn]
  exact hQ _ ⟨rfl, rfl⟩ (cs_wt_set h hi)
theorem C_gbits {go : Nat} (h : tg_R A (cs_h ar A s) σ) (hi : i < s.1) (hg : cs_v s 18 i 2 = nI go) (hg2 : go ≤ 25) : mj_wp (tb ar) 40 (mj_en (tb ar) 40 [.ref (A (18, i))] σ) Q ↔ Q (.inl (some (.int (z_bits (cs_v s 19 i) go)))) σ := by
  have g := cs_g (k := 18) h (if_pos hi)
  rw [hg] at g
  exact z_going_bits g (cs_g (k := 19) h (if_pos hi)) hg2
/-- a main PROPOSES -/
def cs_prop (s : cs_S) (i sl : Nat) (y : Int32) : cs_S := cs_u (cs_u (cs_u s 22 i (upd (cs_v s 22 i) sl 1)) 23 i (upd (cs_v s 23 i) sl y)) 20 i (upd (cs_v s 20 i) 10 (cs_v s 20 i 10 ||| go_bit y))
theorem C_propose {sl : Nat} {y : Int32} (h : tg_R A (cs_h ar A s) σ) (hi : i < s.1) (hs : sl < 100) (hQ : ∀ τ, cs_n σ τ → tg_R A (cs_h ar A (cs_prop s i sl y)) τ → Q (.inl none) τ) : mj_wp (tb ar) 8 (mj_en (tb ar) 8 [.ref (A (20, i)), .int (nI sl), .int y] σ) Q := by
  rw [e_propose (cs_g (k := 20) h (if_pos hi)) (cs_g (k := 22) h (if_pos hi)) (cs_g (k := 23) h (if_pos hi)) (tg_ne (t := (23, i)) (u := (22, i)) h (if_pos hi) (if_pos hi) (by simp)) hs]
  refine hQ _ ⟨rfl, rfl⟩ ?_
  refine cs_set (k := 20) (i := i) (e0 := _) (cs_set (k := 23) (i := i) (cs_set (k := 22) (i := i) h (if_pos hi) (if_pos hi)) (if_pos hi) (if_pos hi)) (if_pos hi) ?_
  refine (if_pos hi).trans ?_
  simp only [w_set_at, w_set_ne (show (6 : Nat) ≠ 10 by decide), w_set_ne (show (7 : Nat) ≠ 10 by decide), w_set_ne (show (8 : Nat) ≠ 10 by decide), w_set_ne (show (9 : Nat) ≠ 10 by decide), w_set_ne (show (11 : Nat) ≠ 10 by decide), w_set_ne (show (12 : Nat) ≠ 10 by decide)]
/-- a main begins to lead -/
def cs_begin (s : cs_S) (i : Nat) (y : Int32) : cs_S := cs_u (cs_end s i) 20 i (upd (upd (cs_v (cs_end s i) 20 i) 6 1) 7 y)
theorem cs_end_1 : (cs_end s i).1 = s.1 := by
  unfold cs_end
  split <;> rfl
theorem C_begin {y : Int32} (h : tg_R A (cs_h ar A s) σ) (hi : i < s.1) (hQ : ∀ τ, cs_n σ τ → tg_R A (cs_h ar A (cs_begin s i y)) τ → Q (.inl none) τ) : mj_wp (tb ar) 1 (mj_en (tb ar) 1 [.ref (A (20, i)), .int y] σ) Q := by
  rw [en_1]
  have g20 := cs_g (k := 20) h (if_pos hi)
  simp only [r1_0, r1_1, wo_nx, wo_ret, wo_ite, wo_call, bk_inl, mj_lda, mj_ldi, mj_sti, mj_sta, mj_b2, mj_br1, mj_br2, mj_brn, mj_ir, mj_rr, mj_nx, mj_gf, mj_fld, mj_k2, mj_rc, mj_cls, mj_dup, mj_inc, List.getElem?_cons_zero, List.getElem?_cons_succ, List.length_cons, List.length_nil, List.set_cons_succ, List.set_cons_zero, Nat.reduceAdd, Nat.reduceLT, if_true, if_false, mj_iif, decide_eq_true_eq, List.take_succ_cons, List.take_zero, List.reverse_cons, List.reverse_nil, List.nil_append, List.cons_append, List.drop_succ_cons, List.drop_zero, List.map_cons, List.map_nil, cat_i, cat_r, cat_n, Nat.reduceLeDiff, true_and, and_true, decide_true, Option.toList_some, Option.toList_none, and_self, Nat.le_refl, g20, mL_2]
  refine C_end h hi (fun τ hn hτ => ?_)
  have hi' : i < (cs_end s i).1 := by rw [cs_end_1]; exact hi
  have g := cs_g (k := 20) hτ (if_pos hi')
  simp only [r1_4, r1_5, r1_6, r1_9, r1_10, r1_11, r1_14, wo_nx, wo_ret, wo_ite, wo_call, bk_inl, mj_lda, mj_ldi, mj_sti, mj_sta, mj_b2, mj_br1, mj_br2, mj_brn, mj_ir, mj_rr, mj_nx, mj_gf, mj_fld, mj_k2, mj_rc, mj_cls, mj_dup, mj_inc, List.getElem?_cons_zero, List.getElem?_cons_succ, List.length_cons, List.length_nil, List.set_cons_succ, List.set_cons_zero, Nat.reduceAdd, Nat.reduceLT, if_true, if_false, mj_iif, decide_eq_true_eq, List.take_succ_cons, List.take_zero, List.reverse_cons, List.reverse_nil, List.nil_append, List.cons_append, List.drop_succ_cons, List.drop_zero, List.map_cons, List.map_nil, cat_i, cat_r, cat_n, Nat.reduceLeDiff, true_and, and_true, decide_true, Option.toList_some, Option.toList_none, and_self, Nat.le_refl, g, mj_pf, mj_sf, mj_fit, mj_vr, up_eq, up_up, Option.isSome_some]
  refine hQ _ hn ?_
  unfold cs_begin
  refine cs_set (k := 20) (i := i) (e0 := _) hτ (if_pos hi') ?_
  refine (if_pos hi').trans ?_
  simp only [w_set_at, w_set_ne (show (6 : Nat) ≠ 7 by decide), w_set_ne (show (8 : Nat) ≠ 7 by decide), w_set_ne (show (9 : Nat) ≠ 7 by decide), w_set_ne (show (10 : Nat) ≠ 7 by decide), w_set_ne (show (11 : Nat) ≠ 7 by decide), w_set_ne (show (12 : Nat) ≠ 7 by decide), w_set_ne (show (8 : Nat) ≠ 6 by decide), w_set_ne (show (9 : Nat) ≠ 6 by decide), w_set_ne (show (10 : Nat) ≠ 6 by decide), w_set_ne (show (11 : Nat) ≠ 6 by decide), w_set_ne (show (12 : Nat) ≠ 6 by decide)]
end CO
