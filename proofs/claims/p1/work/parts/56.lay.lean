section CQ
variable {ar : Nat → ClassId} {A A' : tg_T → Nat} {s s' : cs_S} {σ : mj_S} {e e0 : va_E} {w : Nat → Int32} {k i x : Nat} {Q : (Option Value ⊕ String) → mj_S → Prop}
theorem en_15 {a b : Value} : mj_en (tb ar) 15 [a, b] σ = (0, [some a, some b, none], [], σ) := rfl
theorem mL_32 : mj_mL (tb ar) 32 = 4 := rfl
/-- a Row's put -/
def cs_put (s : cs_S) (k i sl : Nat) (x y : Int32) : cs_S := cs_u3 s k i (upd (cs_v s (k + 1) i) sl x) (upd (cs_v s (k + 2) i) sl y) (cs_v s k i 2) (if cs_v s k i 3 < nI (sl + 1) then nI (sl + 1) else cs_v s k i 3)
/-- a LOG is laid over the Row (k, x) -/
def cs_lay (s : cs_S) (i k x : Nat) : Nat → cs_S
  | 0 => s
  | j + 1 => if cs_v s 15 i j = 0 then cs_lay s i k x j else cs_put (cs_lay s i k x j) k x j 10000 (cs_v s 16 i j)
theorem lay_same {j : Nat} (hR : cs_R s k x) : (cs_lay s i k x j).1 = s.1 ∧ (cs_lay s i k x j).2.1 = s.2.1 ∧ (cs_lay s i k x j).2.2.1 = s.2.2.1 ∧ ∀ k' i', k' < 10 ∨ (12 < k' ∧ k' < 27) → cs_v (cs_lay s i k x j) k' i' = cs_v s k' i' := by
  induction j with
  | zero => exact ⟨rfl, rfl, rfl, fun _ _ _ => rfl⟩
  | succ j ih =>
    unfold cs_lay
    split
    · exact ih
    · refine ⟨ih.1, ih.2.1, ih.2.2.1, fun k' i' hk' => ?_⟩
      have hk : k = 10 ∨ k = 27 ∨ k = 31 := by
        rcases hR with h | h | h
        · exact Or.inl h.1
        · exact Or.inr (Or.inl h.1)
        · exact Or.inr (Or.inr h.1)
      unfold cs_put cs_u3
      rw [cs_u_ne (by omega), cs_u_ne (by omega), cs_u_ne (by omega)]
      exact ih.2.2.2 k' i' hk'
theorem lay_R {j k' x' : Nat} (hR : cs_R s k x) (h : cs_R s k' x') : cs_R (cs_lay s i k x j) k' x' := by
  obtain ⟨e1, e2, e3, -⟩ := lay_same (i := i) (j := j) hR
  unfold cs_R at h ⊢
  rw [e1, e2, e3]
  exact h
theorem C_lay_loop {en : Nat} (hi : i < s.1) (hR : cs_R s k x) (hen : cs_v s 14 i 5 = nI en) (he : en ≤ 100) (hQ : ∀ τ, cs_n σ τ → tg_R A (cs_h ar A (cs_lay s i k x en)) τ → Q (.inl none) τ) : ∀ (m j : Nat), j + m = en → ∀ τ, cs_n σ τ → tg_R A (cs_h ar A (cs_lay s i k x j)) τ → mj_wp (tb ar) 15 (2, [some (.ref (A (14, i))), some (.ref (A (k, x))), some (.int (nI j))], [], τ) Q
  | 0, j, hj, τ, hn, hτ => by
    have e : j = en := by omega
    subst e
    obtain ⟨e1, e2, e3, e4⟩ := lay_same (s := s) (i := i) (j := j) hR
    have hi' : i < (cs_lay s i k x j).1 := by rw [e1]; exact hi
    have g := cs_g (k := 14) (i := i) hτ (if_pos hi')
    rw [e4 14 i (by omega), hen] at g
    have c1 : nI j ≤ nI j := nI_le (Nat.le_refl _) (by omega)
    simp only [r15_2, r15_3, r15_4, r15_7, r15_39, wo_nx, wo_ret, wo_ite, wo_call, bk_inl, mj_lda, mj_ldi, mj_sti, mj_sta, mj_b2, mj_br1, mj_br2, mj_brn, mj_ir, mj_rr, mj_nx, mj_gf, mj_fld, mj_k2, mj_rc, mj_cls, mj_dup, mj_inc, List.getElem?_cons_zero, List.getElem?_cons_succ, List.length_cons, List.length_nil, List.set_cons_succ, List.set_cons_zero, Nat.reduceAdd, Nat.reduceLT, if_true, if_false, mj_iif, decide_eq_true_eq, List.take_succ_cons, List.take_zero, List.reverse_cons, List.reverse_nil, List.nil_append, List.cons_append, List.drop_succ_cons, List.drop_zero, List.map_cons, List.map_nil, cat_i, cat_r, cat_n, Nat.reduceLeDiff, true_and, and_true, decide_true, Option.toList_some, Option.toList_none, and_self, Nat.le_refl, g, c1, mj_vr]
    exact hQ τ hn hτ
  | m + 1, j, hj, τ, hn, hτ => by
    obtain ⟨e1, e2, e3, e4⟩ := lay_same (s := s) (i := i) (j := j) hR
    have hi' : i < (cs_lay s i k x j).1 := by rw [e1]; exact hi
    have g := cs_g (k := 14) (i := i) hτ (if_pos hi')
    have g15 := cs_g (k := 15) (i := i) hτ (if_pos hi')
    have g16 := cs_g (k := 16) (i := i) hτ (if_pos hi')
    rw [e4 14 i (by omega), hen] at g
    rw [e4 15 i (by omega)] at g15
    rw [e4 16 i (by omega)] at g16
    have c1 : ¬ nI en ≤ nI j := nI_ge (by omega) (by omega)
    have hix : mj_ix (nI j) 100 = true := ix_of (by omega) (by decide)
    have hcl : (nI j).toNatClampNeg = j := nI_clamp (by omega)
    have ih := C_lay_loop hi hR hen he hQ m (j + 1) (by omega)
    rw [r15_2]
    by_cases hf : cs_v s 15 i j = 0
    · simp only [r15_3, r15_4, r15_7, r15_10, r15_11, r15_14, r15_15, r15_16, r15_33, r15_36, wo_nx, wo_ret, wo_ite, wo_call, bk_inl, mj_lda, mj_ldi, mj_sti, mj_sta, mj_b2, mj_br1, mj_br2, mj_brn, mj_ir, mj_rr, mj_nx, mj_gf, mj_fld, mj_k2, mj_rc, mj_cls, mj_dup, mj_inc, List.getElem?_cons_zero, List.getElem?_cons_succ, List.length_cons, List.length_nil, List.set_cons_succ, List.set_cons_zero, Nat.reduceAdd, Nat.reduceLT, if_true, if_false, mj_iif, decide_eq_true_eq, List.take_succ_cons, List.take_zero, List.reverse_cons, List.reverse_nil, List.nil_append, List.cons_append, List.drop_succ_cons, List.drop_zero, List.map_cons, List.map_nil, cat_i, cat_r, cat_n, Nat.reduceLeDiff, true_and, and_true, decide_true, Option.toList_some, Option.toList_none, and_self, Nat.le_refl, g, g15, c1, mj_il, mj_ia, ar_1, hix, hcl, hf, nI_1]
      refine ih τ hn ?_
      rw [cs_lay, if_pos hf]
      exact hτ
    · have g0 := cs_g (k := k) (i := x) hτ (cs_R0 (lay_R hR hR))
      simp only [r15_3, r15_4, r15_7, r15_10, r15_11, r15_14, r15_15, r15_16, r15_19, r15_20, r15_21, r15_24, r15_25, r15_28, r15_29, r15_30, wo_nx, wo_ret, wo_ite, wo_call, bk_inl, mj_lda, mj_ldi, mj_sti, mj_sta, mj_b2, mj_br1, mj_br2, mj_brn, mj_ir, mj_rr, mj_nx, mj_gf, mj_fld, mj_k2, mj_rc, mj_cls, mj_dup, mj_inc, List.getElem?_cons_zero, List.getElem?_cons_succ, List.length_cons, List.length_nil, List.set_cons_succ, List.set_cons_zero, Nat.reduceAdd, Nat.reduceLT, if_true, if_false, mj_iif, decide_eq_true_eq, List.take_succ_cons, List.take_zero, List.reverse_cons, List.reverse_nil, List.nil_append, List.cons_append, List.drop_succ_cons, List.drop_zero, List.map_cons, List.map_nil, cat_i, cat_r, cat_n, Nat.reduceLeDiff, true_and, and_true, decide_true, Option.toList_some, Option.toList_none, and_self, Nat.le_refl, g, g15, g16, g0, c1, mj_il, mj_ia, ar_0, ar_1, hix, hcl, hf, mL_32]
      refine C_put hτ (lay_R hR hR) (by omega) (fun τ' hn' hτ' => ?_)
      simp only [r15_33, r15_36, wo_nx, wo_ret, wo_ite, wo_call, bk_inl, mj_lda, mj_ldi, mj_sti, mj_sta, mj_b2, mj_br1, mj_br2, mj_brn, mj_ir, mj_rr, mj_nx, mj_gf, mj_fld, mj_k2, mj_rc, mj_cls, mj_dup, mj_inc, List.getElem?_cons_zero, List.getElem?_cons_succ, List.length_cons, List.length_nil, List.set_cons_succ, List.set_cons_zero, Nat.reduceAdd, Nat.reduceLT, if_true, if_false, mj_iif, decide_eq_true_eq, List.take_succ_cons, List.take_zero, List.reverse_cons, List.reverse_nil, List.nil_append, List.cons_append, List.drop_succ_cons, List.drop_zero, List.map_cons, List.map_nil, cat_i, cat_r, cat_n, Nat.reduceLeDiff, true_and, and_true, decide_true, Option.toList_some, Option.toList_none, and_self, Nat.le_refl, nI_1]
      refine ih τ' ⟨hn'.1.trans hn.1, hn'.2.trans hn.2⟩ ?_
      rw [cs_lay, if_neg hf]
      exact hτ'
theorem C_lay {en : Nat} (h : tg_R A (cs_h ar A s) σ) (hi : i < s.1) (hR : cs_R s k x) (hen : cs_v s 14 i 5 = nI en) (he : en ≤ 100) (hQ : ∀ τ, cs_n σ τ → tg_R A (cs_h ar A (cs_lay s i k x en)) τ → Q (.inl none) τ) : mj_wp (tb ar) 15 (mj_en (tb ar) 15 [.ref (A (14, i)), .ref (A (k, x))] σ) Q := by
  rw [en_15]
  have hl := C_lay_loop hi hR hen he hQ en 0 (by omega) σ ⟨rfl, rfl⟩ h
  rw [nI_0] at hl
  simp only [r15_0, r15_1, wo_nx, wo_ret, wo_ite, wo_call, bk_inl, mj_lda, mj_ldi, mj_sti, mj_sta, mj_b2, mj_br1, mj_br2, mj_brn, mj_ir, mj_rr, mj_nx, mj_gf, mj_fld, mj_k2, mj_rc, mj_cls, mj_dup, mj_inc, List.getElem?_cons_zero, List.getElem?_cons_succ, List.length_cons, List.length_nil, List.set_cons_succ, List.set_cons_zero, Nat.reduceAdd, Nat.reduceLT, if_true, if_false, mj_iif, decide_eq_true_eq, List.take_succ_cons, List.take_zero, List.reverse_cons, List.reverse_nil, List.nil_append, List.cons_append, List.drop_succ_cons, List.drop_zero, List.map_cons, List.map_nil, cat_i, cat_r, cat_n, Nat.reduceLeDiff, true_and, and_true, decide_true, Option.toList_some, Option.toList_none, and_self, Nat.le_refl]
  exact hl
end CQ
