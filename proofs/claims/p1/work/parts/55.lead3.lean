section CP
variable {ar : Nat → ClassId} {A A' : tg_T → Nat} {s s' : cs_S} {σ : mj_S} {e e0 : va_E} {w : Nat → Int32} {k i x : Nat} {Q : (Option Value ⊕ String) → mj_S → Prop}
theorem cs_R27 {j : Nat} (hi : i < s.1) (hn : s.1 ≤ 5) (hj : j < 2 * s.1 - 1) : cs_R s 27 (16 * i + j) := Or.inr (Or.inl ⟨rfl, by omega, by omega⟩)
def cs_pr (A : tg_T → Nat) (n i : Nat) : Nat → Option Nat := fun j => if j < 2 * n - 1 then some (A (27, 16 * i + j)) else none
theorem cs_g21 (h : tg_R A (cs_h ar A s) σ) (hi : i < s.1) : σ.2.2 (A (21, i)) = some (w_ra ar (2 * s.1 - 1) (cs_pr A s.1 i)) := cs_g (k := 21) h (if_pos hi)
theorem cs_wr (h : tg_R A (cs_h ar A s) σ) (hi : i < s.1) (hn : s.1 ≤ 5) : w_rows σ (cs_pr A s.1 i) (2 * s.1 - 1) (fun j => A (27, 16 * i + j)) (fun j => A (28, 16 * i + j)) (fun j => A (29, 16 * i + j)) (fun j => cs_v s 27 (16 * i + j) 2) (fun j => cs_v s 27 (16 * i + j) 3) := fun j hj => ⟨if_pos hj, cs_g (k := 27) h (cs_R0 (cs_R27 hi hn hj))⟩
theorem C_for {y : Int32} (h : tg_R A (cs_h ar A s) σ) (hi : i < s.1) (hn : s.1 ≤ 5) : mj_wp (tb ar) 4 (mj_en (tb ar) 4 [.ref (A (20, i)), .int y] σ) Q ↔ Q (.inl (some (.int (e_who (cs_v s 20 i 9) (fun j => cs_v s 27 (16 * i + j) 2) y (2 * s.1 - 1))))) σ := e_for (cs_g (k := 20) h (if_pos hi)) (cs_g21 h hi) (cs_wr h hi hn) (by omega)
theorem C_best {who : Int32} {sl : Nat} (h : tg_R A (cs_h ar A s) σ) (hi : i < s.1) (hn : s.1 ≤ 5) (hs : sl < 100) : mj_wp (tb ar) 5 (mj_en (tb ar) 5 [.ref (A (20, i)), .int who, .int (nI sl)] σ) Q ↔ Q (.inl (some (.int (e_best who (fun j => cs_v s 28 (16 * i + j)) (fun j => cs_v s 29 (16 * i + j)) sl (2 * s.1 - 1)).2))) σ := e_bestT (cs_g (k := 20) h (if_pos hi)) (cs_g21 h hi) (cs_wr h hi hn) (fun j hj => cs_g (k := 28) h (cs_R1 (cs_R27 hi hn hj))) (fun j hj => cs_g (k := 29) h (cs_R2 (cs_R27 hi hn hj))) (by omega) hs
theorem C_beh {who y : Int32} (h : tg_R A (cs_h ar A s) σ) (hi : i < s.1) (hn : s.1 ≤ 5) : ∃ b : Int32, ((b = 1 ∧ e_beh who (fun j => cs_v s 27 (16 * i + j) 3) y (2 * s.1 - 1)) ∨ (b = 0 ∧ ¬ e_beh who (fun j => cs_v s 27 (16 * i + j) 3) y (2 * s.1 - 1))) ∧ (mj_wp (tb ar) 6 (mj_en (tb ar) 6 [.ref (A (20, i)), .int who, .int y] σ) Q ↔ Q (.inl (some (.int b))) σ) := by
  obtain ⟨b, hb, hw⟩ := e_beh_loop (ar := ar) (Q := Q) (who := who) (s := y) (cs_g (k := 20) h (if_pos hi)) (cs_g21 h hi) (cs_wr h hi hn) (by omega) (2 * s.1 - 1) 0 (by omega) (fun q => by obtain ⟨_, q, _⟩ := q; omega)
  refine ⟨b, hb, Iff.trans ?_ hw⟩
  rw [en_6]
  simp only [r6_0, r6_1, wo_nx, wo_ret, wo_ite, wo_call, bk_inl, mj_lda, mj_ldi, mj_sti, mj_sta, mj_b2, mj_br1, mj_br2, mj_brn, mj_ir, mj_rr, mj_nx, mj_gf, mj_fld, mj_k2, mj_rc, mj_cls, mj_dup, mj_inc, List.getElem?_cons_zero, List.getElem?_cons_succ, List.length_cons, List.length_nil, List.set_cons_succ, List.set_cons_zero, Nat.reduceAdd, Nat.reduceLT, if_true, if_false, mj_iif, decide_eq_true_eq, List.take_succ_cons, List.take_zero, List.reverse_cons, List.reverse_nil, List.nil_append, List.cons_append, List.drop_succ_cons, List.drop_zero, List.map_cons, List.map_nil, cat_i, cat_r, cat_n, Nat.reduceLeDiff, true_and, and_true, decide_true, Option.toList_some, Option.toList_none, and_self, Nat.le_refl, nI_0]
theorem mL_34 : mj_mL (tb ar) 34 = 3 := rfl
/-- a PROMISE is counted: the Row (k, x) is copied -/
def cs_count (s : cs_S) (i j k x m : Nat) : cs_S := cs_u (cs_cp s 27 (16 * i + j) k x m) 20 i (upd (cs_v s 20 i) 9 (cs_v s 20 i 9 ||| i_one j))
theorem C_count {j en en' : Nat} (h : tg_R A (cs_h ar A s) σ) (hi : i < s.1) (hn : s.1 ≤ 5) (hj : j < 2 * s.1 - 1) (hR : cs_R s k x) (hk : k ≠ 27) (hen : cs_v s 27 (16 * i + j) 3 = nI en) (hen' : cs_v s k x 3 = nI en') (he : en ≤ 100) (he' : en' ≤ 100) (hQ : ∀ τ, cs_n σ τ → tg_R A (cs_h ar A (cs_count s i j k x (max en en'))) τ → Q (.inl none) τ) : mj_wp (tb ar) 3 (mj_en (tb ar) 3 [.ref (A (20, i)), .int (nI j), .ref (A (k, x))] σ) Q := by
  rw [en_3]
  have g20 := cs_g (k := 20) h (if_pos hi)
  have g21 := cs_g21 h hi
  have g27 := cs_g (k := 27) h (cs_R0 (cs_R27 hi hn hj))
  have c1 : ¬ nI j < 0 := nI_pos (by omega)
  have c2 : ¬ Int32.ofNat (2 * s.1 - 1) ≤ nI j := nI_ge hj (by omega)
  have hix : mj_ix (nI j) (2 * s.1 - 1) = true := ix_of hj (by omega)
  have hcl : (nI j).toNatClampNeg = j := nI_clamp (by omega)
  have hpr : cs_pr A s.1 i j = some (A (27, 16 * i + j)) := if_pos hj
  simp only [r3_0, r3_1, r3_4, r3_5, r3_6, r3_9, r3_10, r3_13, r3_14, r3_17, r3_18, r3_19, r3_20, wo_nx, wo_ret, wo_ite, wo_call, bk_inl, mj_lda, mj_ldi, mj_sti, mj_sta, mj_b2, mj_br1, mj_br2, mj_brn, mj_ir, mj_rr, mj_nx, mj_gf, mj_fld, mj_k2, mj_rc, mj_cls, mj_dup, mj_inc, List.getElem?_cons_zero, List.getElem?_cons_succ, List.length_cons, List.length_nil, List.set_cons_succ, List.set_cons_zero, Nat.reduceAdd, Nat.reduceLT, if_true, if_false, mj_iif, decide_eq_true_eq, List.take_succ_cons, List.take_zero, List.reverse_cons, List.reverse_nil, List.nil_append, List.cons_append, List.drop_succ_cons, List.drop_zero, List.map_cons, List.map_nil, cat_i, cat_r, cat_n, Nat.reduceLeDiff, true_and, and_true, decide_true, Option.toList_some, Option.toList_none, and_self, Nat.le_refl, g20, g21, g27, mj_alen, ka_9, c1, c2, mj_aald, kr_9, hix, hcl, hpr, va_rf, mL_34]
  refine C_copy h (cs_R27 hi hn hj) hR (Or.inl (Ne.symm hk)) hen hen' he he' (fun τ hn' hτ => ?_)
  have hv : cs_v (cs_cp s 27 (16 * i + j) k x (max en en')) 20 i = cs_v s 20 i := by
    unfold cs_cp cs_u3
    rw [cs_u_ne (by omega), cs_u_ne (by omega), cs_u_ne (by omega)]
  have g := cs_g (k := 20) (i := i) hτ (if_pos hi)
  rw [hv] at g
  simp only [r3_23, r3_24, r3_25, r3_28, r3_29, r3_30, r3_31, r3_32, r3_35, wo_nx, wo_ret, wo_ite, wo_call, bk_inl, mj_lda, mj_ldi, mj_sti, mj_sta, mj_b2, mj_br1, mj_br2, mj_brn, mj_ir, mj_rr, mj_nx, mj_gf, mj_fld, mj_k2, mj_rc, mj_cls, mj_dup, mj_inc, List.getElem?_cons_zero, List.getElem?_cons_succ, List.length_cons, List.length_nil, List.set_cons_succ, List.set_cons_zero, Nat.reduceAdd, Nat.reduceLT, if_true, if_false, mj_iif, decide_eq_true_eq, List.take_succ_cons, List.take_zero, List.reverse_cons, List.reverse_nil, List.nil_append, List.cons_append, List.drop_succ_cons, List.drop_zero, List.map_cons, List.map_nil, cat_i, cat_r, cat_n, Nat.reduceLeDiff, true_and, and_true, decide_true, Option.toList_some, Option.toList_none, and_self, Nat.le_refl, g, mj_pf, mj_sf, mj_fit, mj_vr, Option.isSome_some]
  refine hQ _ hn' ?_
  unfold cs_count i_one
  refine cs_set (k := 20) (i := i) (e0 := _) hτ (if_pos hi) ?_
  refine (if_pos hi).trans ?_
  simp only [w_set_at, w_set_ne (show (6 : Nat) ≠ 9 by decide), w_set_ne (show (7 : Nat) ≠ 9 by decide), w_set_ne (show (8 : Nat) ≠ 9 by decide), w_set_ne (show (10 : Nat) ≠ 9 by decide), w_set_ne (show (11 : Nat) ≠ 9 by decide), w_set_ne (show (12 : Nat) ≠ 9 by decide)]
end CP
