section CX
variable {ar : Nat → ClassId} {A : tg_T → Nat} {s s' : cs_S} {σ : mj_S} {m x : Nat} {b : Int32} {Q : (Option Value ⊕ String) → mj_S → Prop}
/-- what a main that has just begun finds at itself -/
def cc_F (m x : Nat) (b : Int32) (s : cs_S) : Prop := cs_v s 0 0 2 = c0_w m ∧ cs_v s 10 x 2 = 0 ∧ cs_v s 10 x 3 = nI 0 ∧ cs_v s 14 x 3 = nI 0 ∧ cs_v s 14 x 5 = 0 ∧ cs_v s 17 x 0 = ((1 : Int32) <<< (nI m &&& 31)) - 1 ∧ cs_v s 20 x 6 = 1 ∧ cs_v s 20 x 7 = b ∧ cs_v s 20 x 9 = 0 ∧ (∀ j, cs_v s 27 (16 * x + j) 2 = 0 ∧ cs_v s 27 (16 * x + j) 3 = nI 0) ∧ cs_v s 0 0 0 = nI m ∧ cs_v s 0 0 1 = nI (2 * m - 1)
theorem cc_F_of (h : cc_F m x b s) (e : ∀ k i, k = 0 ∨ k = 10 ∨ k = 14 ∨ k = 17 ∨ k = 20 ∨ k = 27 → cs_v s' k i = cs_v s k i) : cc_F m x b s' := by
  unfold cc_F
  rw [e 0 0 (by omega), e 10 x (by omega), e 14 x (by omega), e 17 x (by omega), e 20 x (by omega)]
  obtain ⟨f1, f2, f3, f4, f5, f6, f7, f8, f9, f10, f11⟩ := h
  exact ⟨f1, f2, f3, f4, f5, f6, f7, f8, f9, fun j => by rw [e 27 (16 * x + j) (by omega)]; exact f10 j, f11⟩
theorem C_oq {p : Nat} (hm : m = 2 ∨ m = 3 ∨ m = 4 ∨ m = 5) (hs1 : s.1 = m) (hx : x < m) (h : tg_R A (cs_h ar A s) σ) (hp : p < s.2.1) (htd : s.2.2.1 p = true) (hv : cs_v s 30 p = cs_six (nI x) (nI x) 2 b 0 0) (h312 : cs_v s 31 p 2 = 0) (h313 : cs_v s 31 p 3 = nI 0) (hF : cc_F m x b s) (hQ : ∀ τ, cs_n σ τ → tg_R A (cs_h ar A (cs_count s x x 31 p 0)) τ → Q (.inl none) τ) : mj_wp (tb ar) 67 (mj_en (tb ar) 67 [.ref (A (0, 0)), .ref (A (13, x)), .ref (A (30, p))] σ) Q := by
  rw [ent_67]
  obtain ⟨f1, f2, f3, f4, f5, f6, f7, f8, f9, f10, f11, f12⟩ := hF
  have hi : x < s.1 := by rw [hs1]; exact hx
  have g13 := cs_g (k := 13) (i := x) h (if_pos hi)
  have g14 := cs_g (k := 14) (i := x) h (if_pos hi)
  have g20 := cs_g (k := 20) (i := x) h (if_pos hi)
  have g30 := cs_g (k := 30) (i := p) h (if_pos hp)
  rw [hv] at g30
  have z0 : cs_six (nI x) (nI x) 2 b 0 0 0 = nI x := rfl
  have z3 : cs_six (nI x) (nI x) 2 b 0 0 3 = b := rfl
  simp only [r67_0, r67_1, r67_4, r67_5, r67_8, r67_11, r67_14, r67_15, r67_18, r67_21, r67_22, r67_25, r67_29, r67_30, r67_33, r67_34, r67_37, r67_38, wo_nx, wo_ret, wo_ite, wo_call, bk_inl, mj_lda, mj_ldi, mj_sti, mj_sta, mj_b2, mj_br1, mj_br2, mj_brn, mj_ir, mj_rr, mj_nx, mj_gf, mj_fld, mj_k2, mj_rc, mj_cls, mj_dup, mj_inc, List.getElem?_cons_zero, List.getElem?_cons_succ, List.length_cons, List.length_nil, List.set_cons_succ, List.set_cons_zero, Nat.reduceAdd, Nat.reduceLT, if_true, if_false, mj_iif, decide_eq_true_eq, List.take_succ_cons, List.take_zero, List.reverse_cons, List.reverse_nil, List.nil_append, List.cons_append, List.drop_succ_cons, List.drop_zero, List.map_cons, List.map_nil, cat_i, cat_r, cat_n, Nat.reduceLeDiff, true_and, and_true, decide_true, Option.toList_some, Option.toList_none, and_self, Nat.le_refl, mj_vr, mj_zr, mj_th, wo_thr, mxl_0, mxl_1, mxl_2, mxl_3, mxl_4, mxl_5, mxl_6, mxl_7, mxl_8, mxl_9, mxl_10, mxl_11, mxl_12, mxl_13, mxl_14, mxl_15, mxl_16, mxl_17, mxl_18, mxl_19, mxl_20, mxl_21, mxl_22, mxl_23, mxl_24, mxl_25, mxl_26, mxl_27, mxl_28, mxl_29, mxl_30, mxl_31, mxl_32, mxl_33, mxl_34, mxl_35, mxl_36, mxl_37, mxl_38, mxl_39, mxl_40, mxl_41, mxl_42, mxl_43, mxl_44, mxl_45, mxl_46, mxl_47, mxl_48, mxl_49, mxl_50, mxl_51, mxl_52, mxl_53, mxl_54, mxl_55, mxl_56, mxl_57, mxl_58, mxl_59, mxl_60, mxl_61, mxl_62, mxl_63, mxl_64, mxl_65, mxl_66, mxl_67, mxl_68, mxl_69, mxl_70, mxl_71, mxl_72, mxl_73, mxl_74, mxl_75, mxl_76, mxl_77, mxl_78, mxl_79, mxl_80, mxl_81, mxl_82, mxl_83, mxl_84, mxl_85, mxl_86, mxl_136, mxl_137, g13, g20, g30, z0, z3, f7, f8, k_10, C_room1 h hp htd]
  simp only [r67_41, wo_nx, wo_ret, wo_ite, wo_call, bk_inl, mj_lda, mj_ldi, mj_sti, mj_sta, mj_b2, mj_br1, mj_br2, mj_brn, mj_ir, mj_rr, mj_nx, mj_gf, mj_fld, mj_k2, mj_rc, mj_cls, mj_dup, mj_inc, List.getElem?_cons_zero, List.getElem?_cons_succ, List.length_cons, List.length_nil, List.set_cons_succ, List.set_cons_zero, Nat.reduceAdd, Nat.reduceLT, if_true, if_false, mj_iif, decide_eq_true_eq, List.take_succ_cons, List.take_zero, List.reverse_cons, List.reverse_nil, List.nil_append, List.cons_append, List.drop_succ_cons, List.drop_zero, List.map_cons, List.map_nil, cat_i, cat_r, cat_n, Nat.reduceLeDiff, true_and, and_true, decide_true, Option.toList_some, Option.toList_none, and_self, Nat.le_refl, mj_vr, mj_zr, mj_th, wo_thr, mxl_0, mxl_1, mxl_2, mxl_3, mxl_4, mxl_5, mxl_6, mxl_7, mxl_8, mxl_9, mxl_10, mxl_11, mxl_12, mxl_13, mxl_14, mxl_15, mxl_16, mxl_17, mxl_18, mxl_19, mxl_20, mxl_21, mxl_22, mxl_23, mxl_24, mxl_25, mxl_26, mxl_27, mxl_28, mxl_29, mxl_30, mxl_31, mxl_32, mxl_33, mxl_34, mxl_35, mxl_36, mxl_37, mxl_38, mxl_39, mxl_40, mxl_41, mxl_42, mxl_43, mxl_44, mxl_45, mxl_46, mxl_47, mxl_48, mxl_49, mxl_50, mxl_51, mxl_52, mxl_53, mxl_54, mxl_55, mxl_56, mxl_57, mxl_58, mxl_59, mxl_60, mxl_61, mxl_62, mxl_63, mxl_64, mxl_65, mxl_66, mxl_67, mxl_68, mxl_69, mxl_70, mxl_71, mxl_72, mxl_73, mxl_74, mxl_75, mxl_76, mxl_77, mxl_78, mxl_79, mxl_80, mxl_81, mxl_82, mxl_83, mxl_84, mxl_85, mxl_86, mxl_136, mxl_137, g20]
  refine C_count (en := 0) (en' := 0) h hi (by omega) (by rw [hs1]; omega) (Or.inr (Or.inr ⟨rfl, hp, htd⟩)) (by decide) (f10 x).2 h313 (by omega) (by omega) (fun τ hn hτ => ?_)
  rw [show max 0 0 = 0 from rfl] at hτ
  have v20 : cs_v (cs_count s x x 31 p 0) 20 x = upd (cs_v s 20 x) 9 (cs_v s 20 x 9 ||| i_one x) := by
    unfold cs_count
    rw [cs_u_eq]
  have vo : ∀ k i, k ≠ 20 → k ≠ 27 → k ≠ 28 → k ≠ 29 → cs_v (cs_count s x x 31 p 0) k i = cs_v s k i := fun k i a1 a2 a3 a4 => by
    unfold cs_count cs_cp cs_u3
    rw [cs_u_ne (by omega), cs_u_ne (by omega), cs_u_ne (by omega), cs_u_ne (by omega)]
  have v27 : ∀ j, cs_v (cs_count s x x 31 p 0) 27 (16 * x + j) 2 = 0 := fun j => by
    unfold cs_count cs_cp cs_u3
    rw [cs_u_ne (by omega)]
    by_cases hj : j = x
    · subst hj
      rw [cs_u_eq, w_set_ne (by decide), w_set_at]
      exact h312
    · rw [cs_u_ne (by omega), cs_u_ne (by omega), cs_u_ne (by omega)]
      exact (f10 j).1
  have hi' : x < (cs_count s x x 31 p 0).1 := hi
  have G13 := cs_g (k := 13) (i := x) hτ (if_pos hi')
  have G14 := cs_g (k := 14) (i := x) hτ (if_pos hi')
  have G20 := cs_g (k := 20) (i := x) hτ (if_pos hi')
  have G0 := cs_g (k := 0) (i := 0) hτ rfl
  have w6 : cs_v (cs_count s x x 31 p 0) 20 x 6 = 1 := by rw [v20, w_set_ne (by decide)]; exact f7
  have w9 : cs_v (cs_count s x x 31 p 0) 20 x 9 = 0 ||| i_one x := by rw [v20, w_set_at, f9]
  have w3 : cs_v (cs_count s x x 31 p 0) 14 x 3 = nI 0 := by rw [vo 14 x (by decide) (by decide) (by decide) (by decide)]; exact f4
  have w17 : cs_v (cs_count s x x 31 p 0) 17 x 0 = ((1 : Int32) <<< (nI m &&& 31)) - 1 := by rw [vo 17 x (by decide) (by decide) (by decide) (by decide)]; exact f6
  have w02 : cs_v (cs_count s x x 31 p 0) 0 0 2 = c0_w m := by rw [vo 0 0 (by decide) (by decide) (by decide) (by decide)]; exact f1
  obtain ⟨q1, q2, q3⟩ := q1_c hm hx
  have hfor : ∀ Q' : (Option Value ⊕ String) → mj_S → Prop, mj_wp (tb ar) 4 (mj_en (tb ar) 4 [.ref (A (20, x)), .int (nI 0)] τ) Q' ↔ Q' (.inl (some (.int (i_one x)))) τ := fun Q' => by
    rw [C_for hτ hi' (show (cs_count s x x 31 p 0).1 ≤ 5 by show s.1 ≤ 5; omega), w9]
    have e : (2 * (cs_count s x x 31 p 0).1 - 1) = 2 * m - 1 := by show 2 * s.1 - 1 = _; rw [hs1]
    rw [e]
    have e2 := ew_c hm hx (lw := fun j => cs_v (cs_count s x x 31 p 0) 27 (16 * x + j) 2) (fun y _ => v27 y)
    rw [nI_0, e2]
  have hmem : ∀ Q' : (Option Value ⊕ String) → mj_S → Prop, mj_wp (tb ar) 11 (mj_en (tb ar) 11 [.ref (A (14, x)), .int (nI 0)] τ) Q' ↔ Q' (.inl (some (.int (((1 : Int32) <<< (nI m &&& 31)) - 1)))) τ := fun Q' => by
    rw [C_mem hτ hi' (by omega), w17]
  have hqu : ∀ Q' : (Option Value ⊕ String) → mj_S → Prop, mj_wp (tb ar) 62 (mj_en (tb ar) 62 [.ref (A (0, 0)), .int (i_one x), .int (((1 : Int32) <<< (nI m &&& 31)) - 1)] τ) Q' ↔ Q' (.inl (some (.int 0))) τ := fun Q' => C_quorum0 hτ q1 q2 (by rw [w02]; exact q3)
  simp only [r67_44, r67_45, r67_48, r67_51, r67_52, r67_53, r67_56, r67_59, r67_60, r67_63, r67_64, r67_65, r67_68, r67_69, wo_nx, wo_ret, wo_ite, wo_call, bk_inl, mj_lda, mj_ldi, mj_sti, mj_sta, mj_b2, mj_br1, mj_br2, mj_brn, mj_ir, mj_rr, mj_nx, mj_gf, mj_fld, mj_k2, mj_rc, mj_cls, mj_dup, mj_inc, List.getElem?_cons_zero, List.getElem?_cons_succ, List.length_cons, List.length_nil, List.set_cons_succ, List.set_cons_zero, Nat.reduceAdd, Nat.reduceLT, if_true, if_false, mj_iif, decide_eq_true_eq, List.take_succ_cons, List.take_zero, List.reverse_cons, List.reverse_nil, List.nil_append, List.cons_append, List.drop_succ_cons, List.drop_zero, List.map_cons, List.map_nil, cat_i, cat_r, cat_n, Nat.reduceLeDiff, true_and, and_true, decide_true, Option.toList_some, Option.toList_none, and_self, Nat.le_refl, mj_vr, mj_zr, mj_th, wo_thr, mxl_0, mxl_1, mxl_2, mxl_3, mxl_4, mxl_5, mxl_6, mxl_7, mxl_8, mxl_9, mxl_10, mxl_11, mxl_12, mxl_13, mxl_14, mxl_15, mxl_16, mxl_17, mxl_18, mxl_19, mxl_20, mxl_21, mxl_22, mxl_23, mxl_24, mxl_25, mxl_26, mxl_27, mxl_28, mxl_29, mxl_30, mxl_31, mxl_32, mxl_33, mxl_34, mxl_35, mxl_36, mxl_37, mxl_38, mxl_39, mxl_40, mxl_41, mxl_42, mxl_43, mxl_44, mxl_45, mxl_46, mxl_47, mxl_48, mxl_49, mxl_50, mxl_51, mxl_52, mxl_53, mxl_54, mxl_55, mxl_56, mxl_57, mxl_58, mxl_59, mxl_60, mxl_61, mxl_62, mxl_63, mxl_64, mxl_65, mxl_66, mxl_67, mxl_68, mxl_69, mxl_70, mxl_71, mxl_72, mxl_73, mxl_74, mxl_75, mxl_76, mxl_77, mxl_78, mxl_79, mxl_80, mxl_81, mxl_82, mxl_83, mxl_84, mxl_85, mxl_86, mxl_136, mxl_137, G13, G14, G20, G0, w6, w3, ne_eq, not_true_eq_false, hfor]
  simp only [r67_72, r67_73, r67_76, r67_77, wo_nx, wo_ret, wo_ite, wo_call, bk_inl, mj_lda, mj_ldi, mj_sti, mj_sta, mj_b2, mj_br1, mj_br2, mj_brn, mj_ir, mj_rr, mj_nx, mj_gf, mj_fld, mj_k2, mj_rc, mj_cls, mj_dup, mj_inc, List.getElem?_cons_zero, List.getElem?_cons_succ, List.length_cons, List.length_nil, List.set_cons_succ, List.set_cons_zero, Nat.reduceAdd, Nat.reduceLT, if_true, if_false, mj_iif, decide_eq_true_eq, List.take_succ_cons, List.take_zero, List.reverse_cons, List.reverse_nil, List.nil_append, List.cons_append, List.drop_succ_cons, List.drop_zero, List.map_cons, List.map_nil, cat_i, cat_r, cat_n, Nat.reduceLeDiff, true_and, and_true, decide_true, Option.toList_some, Option.toList_none, and_self, Nat.le_refl, mj_vr, mj_zr, mj_th, wo_thr, mxl_0, mxl_1, mxl_2, mxl_3, mxl_4, mxl_5, mxl_6, mxl_7, mxl_8, mxl_9, mxl_10, mxl_11, mxl_12, mxl_13, mxl_14, mxl_15, mxl_16, mxl_17, mxl_18, mxl_19, mxl_20, mxl_21, mxl_22, mxl_23, mxl_24, mxl_25, mxl_26, mxl_27, mxl_28, mxl_29, mxl_30, mxl_31, mxl_32, mxl_33, mxl_34, mxl_35, mxl_36, mxl_37, mxl_38, mxl_39, mxl_40, mxl_41, mxl_42, mxl_43, mxl_44, mxl_45, mxl_46, mxl_47, mxl_48, mxl_49, mxl_50, mxl_51, mxl_52, mxl_53, mxl_54, mxl_55, mxl_56, mxl_57, mxl_58, mxl_59, mxl_60, mxl_61, mxl_62, mxl_63, mxl_64, mxl_65, mxl_66, mxl_67, mxl_68, mxl_69, mxl_70, mxl_71, mxl_72, mxl_73, mxl_74, mxl_75, mxl_76, mxl_77, mxl_78, mxl_79, mxl_80, mxl_81, mxl_82, mxl_83, mxl_84, mxl_85, mxl_86, mxl_136, mxl_137, G13, G14, hmem]
  simp only [r67_80, wo_nx, wo_ret, wo_ite, wo_call, bk_inl, mj_lda, mj_ldi, mj_sti, mj_sta, mj_b2, mj_br1, mj_br2, mj_brn, mj_ir, mj_rr, mj_nx, mj_gf, mj_fld, mj_k2, mj_rc, mj_cls, mj_dup, mj_inc, List.getElem?_cons_zero, List.getElem?_cons_succ, List.length_cons, List.length_nil, List.set_cons_succ, List.set_cons_zero, Nat.reduceAdd, Nat.reduceLT, if_true, if_false, mj_iif, decide_eq_true_eq, List.take_succ_cons, List.take_zero, List.reverse_cons, List.reverse_nil, List.nil_append, List.cons_append, List.drop_succ_cons, List.drop_zero, List.map_cons, List.map_nil, cat_i, cat_r, cat_n, Nat.reduceLeDiff, true_and, and_true, decide_true, Option.toList_some, Option.toList_none, and_self, Nat.le_refl, mj_vr, mj_zr, mj_th, wo_thr, mxl_0, mxl_1, mxl_2, mxl_3, mxl_4, mxl_5, mxl_6, mxl_7, mxl_8, mxl_9, mxl_10, mxl_11, mxl_12, mxl_13, mxl_14, mxl_15, mxl_16, mxl_17, mxl_18, mxl_19, mxl_20, mxl_21, mxl_22, mxl_23, mxl_24, mxl_25, mxl_26, mxl_27, mxl_28, mxl_29, mxl_30, mxl_31, mxl_32, mxl_33, mxl_34, mxl_35, mxl_36, mxl_37, mxl_38, mxl_39, mxl_40, mxl_41, mxl_42, mxl_43, mxl_44, mxl_45, mxl_46, mxl_47, mxl_48, mxl_49, mxl_50, mxl_51, mxl_52, mxl_53, mxl_54, mxl_55, mxl_56, mxl_57, mxl_58, mxl_59, mxl_60, mxl_61, mxl_62, mxl_63, mxl_64, mxl_65, mxl_66, mxl_67, mxl_68, mxl_69, mxl_70, mxl_71, mxl_72, mxl_73, mxl_74, mxl_75, mxl_76, mxl_77, mxl_78, mxl_79, mxl_80, mxl_81, mxl_82, mxl_83, mxl_84, mxl_85, mxl_86, mxl_136, mxl_137, G0, hqu]
  simp only [r67_83, r67_94, wo_nx, wo_ret, wo_ite, wo_call, bk_inl, mj_lda, mj_ldi, mj_sti, mj_sta, mj_b2, mj_br1, mj_br2, mj_brn, mj_ir, mj_rr, mj_nx, mj_gf, mj_fld, mj_k2, mj_rc, mj_cls, mj_dup, mj_inc, List.getElem?_cons_zero, List.getElem?_cons_succ, List.length_cons, List.length_nil, List.set_cons_succ, List.set_cons_zero, Nat.reduceAdd, Nat.reduceLT, if_true, if_false, mj_iif, decide_eq_true_eq, List.take_succ_cons, List.take_zero, List.reverse_cons, List.reverse_nil, List.nil_append, List.cons_append, List.drop_succ_cons, List.drop_zero, List.map_cons, List.map_nil, cat_i, cat_r, cat_n, Nat.reduceLeDiff, true_and, and_true, decide_true, Option.toList_some, Option.toList_none, and_self, Nat.le_refl, mj_vr, mj_zr, mj_th, wo_thr, mxl_0, mxl_1, mxl_2, mxl_3, mxl_4, mxl_5, mxl_6, mxl_7, mxl_8, mxl_9, mxl_10, mxl_11, mxl_12, mxl_13, mxl_14, mxl_15, mxl_16, mxl_17, mxl_18, mxl_19, mxl_20, mxl_21, mxl_22, mxl_23, mxl_24, mxl_25, mxl_26, mxl_27, mxl_28, mxl_29, mxl_30, mxl_31, mxl_32, mxl_33, mxl_34, mxl_35, mxl_36, mxl_37, mxl_38, mxl_39, mxl_40, mxl_41, mxl_42, mxl_43, mxl_44, mxl_45, mxl_46, mxl_47, mxl_48, mxl_49, mxl_50, mxl_51, mxl_52, mxl_53, mxl_54, mxl_55, mxl_56, mxl_57, mxl_58, mxl_59, mxl_60, mxl_61, mxl_62, mxl_63, mxl_64, mxl_65, mxl_66, mxl_67, mxl_68, mxl_69, mxl_70, mxl_71, mxl_72, mxl_73, mxl_74, mxl_75, mxl_76, mxl_77, mxl_78, mxl_79, mxl_80, mxl_81, mxl_82, mxl_83, mxl_84, mxl_85, mxl_86, mxl_136, mxl_137]
  exact hQ τ hn hτ
/-- the main's own PREPARE and PROMISE come; then it goes on with nothing -/
theorem C_settle1 {p : Nat} (hm : m = 2 ∨ m = 3 ∨ m = 4 ∨ m = 5) (hs1 : s.1 = m) (hx : x < m) (h : tg_R A (cs_h ar A s) σ) (hM : cs_M s 0) (htd : s.2.2.1 = fun _ => false) (h3 : cs_v s 3 0 3 = nI 0) (h61 : cs_v s 6 0 1 = nI 0) (h62 : cs_v s 6 0 2 = nI 1) (hp : p < s.2.1) (hr : cs_r s 7 0 = some p) (hv : cs_v s 30 p = cs_six (nI x) (nI x) 1 b 0 0) (h92 : cs_v s 9 x 2 ≤ b) (hF : cc_F m x b s) (hQ : ∀ τ, τ.1 = σ.1 + 4 → τ.2.1 = σ.2.1 + 211 → Q (.inl none) τ) : mj_wp (tb ar) 64 (mj_en (tb ar) 64 [.ref (A (0, 0)), .int (nI x)] σ) Q := by
  rw [ent_64]
  have hB : cs_B s := ⟨by omega, by omega, by rw [hs1]; exact hF.2.2.2.2.2.2.2.2.2.2.1, by rw [hs1]; exact hF.2.2.2.2.2.2.2.2.2.2.2⟩
  have hi : x < s.1 := by rw [hs1]; exact hx
  have hn : x < 2 * s.1 - 1 := by omega
  have g0 := cs_g (k := 0) (i := 0) h rfl
  have g3 := cs_g (k := 3) (i := 0) h rfl
  have g6 := cs_g (k := 6) (i := 0) h rfl
  have c1 : ¬ (1000000 : Int32) ≤ 0 := by decide
  have c2 : ¬ (1000000 : Int32) ≤ 0 + 1 := by decide
  have c3 : ¬ (1000000 : Int32) ≤ 0 + 1 + 1 := by decide
  have hQ6 : cs_Q s 6 0 1 := ⟨h61, by omega, h62, by omega, fun i hi => ⟨p, by rw [show (0 + i) % 300 = 0 by omega]; exact hr⟩⟩
  simp only [r64_0, r64_1, r64_2, r64_5, r64_6, r64_7, r64_11, r64_12, r64_13, r64_14, r64_16, r64_19, r64_20, r64_23, r64_26, r64_27, wo_nx, wo_ret, wo_ite, wo_call, bk_inl, mj_lda, mj_ldi, mj_sti, mj_sta, mj_b2, mj_br1, mj_br2, mj_brn, mj_ir, mj_rr, mj_nx, mj_gf, mj_fld, mj_k2, mj_rc, mj_cls, mj_dup, mj_inc, List.getElem?_cons_zero, List.getElem?_cons_succ, List.length_cons, List.length_nil, List.set_cons_succ, List.set_cons_zero, Nat.reduceAdd, Nat.reduceLT, if_true, if_false, mj_iif, decide_eq_true_eq, List.take_succ_cons, List.take_zero, List.reverse_cons, List.reverse_nil, List.nil_append, List.cons_append, List.drop_succ_cons, List.drop_zero, List.map_cons, List.map_nil, cat_i, cat_r, cat_n, Nat.reduceLeDiff, true_and, and_true, decide_true, Option.toList_some, Option.toList_none, and_self, Nat.le_refl, mj_vr, mj_zr, mj_th, wo_thr, mxl_0, mxl_1, mxl_2, mxl_3, mxl_4, mxl_5, mxl_6, mxl_7, mxl_8, mxl_9, mxl_10, mxl_11, mxl_12, mxl_13, mxl_14, mxl_15, mxl_16, mxl_17, mxl_18, mxl_19, mxl_20, mxl_21, mxl_22, mxl_23, mxl_24, mxl_25, mxl_26, mxl_27, mxl_28, mxl_29, mxl_30, mxl_31, mxl_32, mxl_33, mxl_34, mxl_35, mxl_36, mxl_37, mxl_38, mxl_39, mxl_40, mxl_41, mxl_42, mxl_43, mxl_44, mxl_45, mxl_46, mxl_47, mxl_48, mxl_49, mxl_50, mxl_51, mxl_52, mxl_53, mxl_54, mxl_55, mxl_56, mxl_57, mxl_58, mxl_59, mxl_60, mxl_61, mxl_62, mxl_63, mxl_64, mxl_65, mxl_66, mxl_67, mxl_68, mxl_69, mxl_70, mxl_71, mxl_72, mxl_73, mxl_74, mxl_75, mxl_76, mxl_77, mxl_78, mxl_79, mxl_80, mxl_81, mxl_82, mxl_83, mxl_84, mxl_85, mxl_86, mxl_136, mxl_137, g0, g3, g6, C_mainOf h hB hi, c1]
  refine C_take (i := 0) (hd := 0) (n := 1) (x := p) (Or.inr rfl) h hM.1 hQ6 (by omega) hr (fun τ1 n1 ht1 => ?_)
  have hM1 : cs_M (cs_take s 6 0 1 0) 1 := M_take (Or.inr rfl) hM hQ6 (by omega)
  generalize hsa : cs_take s 6 0 1 0 = sa at ht1 hM1
  have va : ∀ k i, k ≠ 6 → cs_v sa k i = cs_v s k i := fun k i hk => by rw [← hsa]; exact take_vn (by omega)
  have a1 : sa.1 = s.1 := by rw [← hsa]; rfl
  have a21 : sa.2.1 = s.2.1 := by rw [← hsa]; rfl
  have atd : sa.2.2.1 = fun _ => false := by rw [← hsa]; exact htd
  have a61 : cs_v sa 6 0 1 = nI 1 := by rw [← hsa, take_v, w_set_ne (by decide), w_set_at]
  have a62 : cs_v sa 6 0 2 = nI 0 := by rw [← hsa, take_v, w_set_at]
  have aB : cs_B sa := by
    unfold cs_B
    rw [a1, va 0 0 (by decide)]
    exact hB
  have aF : cc_F m x b sa := cc_F_of hF (fun k i hk => va k i (by omega))
  have g0a := cs_g (k := 0) (i := 0) ht1 rfl
  simp only [r64_30, r64_32, r64_34, r64_37, r64_38, r64_40, wo_nx, wo_ret, wo_ite, wo_call, bk_inl, mj_lda, mj_ldi, mj_sti, mj_sta, mj_b2, mj_br1, mj_br2, mj_brn, mj_ir, mj_rr, mj_nx, mj_gf, mj_fld, mj_k2, mj_rc, mj_cls, mj_dup, mj_inc, List.getElem?_cons_zero, List.getElem?_cons_succ, List.length_cons, List.length_nil, List.set_cons_succ, List.set_cons_zero, Nat.reduceAdd, Nat.reduceLT, if_true, if_false, mj_iif, decide_eq_true_eq, List.take_succ_cons, List.take_zero, List.reverse_cons, List.reverse_nil, List.nil_append, List.cons_append, List.drop_succ_cons, List.drop_zero, List.map_cons, List.map_nil, cat_i, cat_r, cat_n, Nat.reduceLeDiff, true_and, and_true, decide_true, Option.toList_some, Option.toList_none, and_self, Nat.le_refl, mj_vr, mj_zr, mj_th, wo_thr, mxl_0, mxl_1, mxl_2, mxl_3, mxl_4, mxl_5, mxl_6, mxl_7, mxl_8, mxl_9, mxl_10, mxl_11, mxl_12, mxl_13, mxl_14, mxl_15, mxl_16, mxl_17, mxl_18, mxl_19, mxl_20, mxl_21, mxl_22, mxl_23, mxl_24, mxl_25, mxl_26, mxl_27, mxl_28, mxl_29, mxl_30, mxl_31, mxl_32, mxl_33, mxl_34, mxl_35, mxl_36, mxl_37, mxl_38, mxl_39, mxl_40, mxl_41, mxl_42, mxl_43, mxl_44, mxl_45, mxl_46, mxl_47, mxl_48, mxl_49, mxl_50, mxl_51, mxl_52, mxl_53, mxl_54, mxl_55, mxl_56, mxl_57, mxl_58, mxl_59, mxl_60, mxl_61, mxl_62, mxl_63, mxl_64, mxl_65, mxl_66, mxl_67, mxl_68, mxl_69, mxl_70, mxl_71, mxl_72, mxl_73, mxl_74, mxl_75, mxl_76, mxl_77, mxl_78, mxl_79, mxl_80, mxl_81, mxl_82, mxl_83, mxl_84, mxl_85, mxl_86, mxl_136, mxl_137, g0a]
  refine C_hd (p := p) (c := 1) (d := 0) (f := 0) ht1 aB (by rw [a1]; exact hi) (by rw [a21]; exact hp) (by rw [va 30 p (by decide)]; exact hv) aF.2.2.2.2.2.2.2.1 (fun τ2 n2 ht2 => ?_)
  generalize hsb : cs_u sa 9 x (upd (cs_v sa 9 x) 3 (cs_v sa 9 x 3 + 1)) = sb at ht2
  have vb : ∀ k i, k ≠ 9 → cs_v sb k i = cs_v sa k i := fun k i hk => by rw [← hsb]; exact cs_u_ne (by omega)
  have b1 : sb.1 = s.1 := by rw [← hsb]; exact a1
  have b21 : sb.2.1 = s.2.1 := by rw [← hsb]; exact a21
  have btd : sb.2.2.1 = fun _ => false := by rw [← hsb]; exact atd
  have b92 : cs_v sb 9 x 2 ≤ b := by
    rw [← hsb, cs_u_eq, w_set_ne (by decide), va 9 x (by decide)]
    exact h92
  have hMb : cs_M sb 1 := M_of hM1 (by rw [b21, a21]) (by rw [← hsb]; rfl) (vb 3 0 (by decide)) (vb 4 0 (by decide)) (vb 6 0 (by decide))
  have bB : cs_B sb := by
    unfold cs_B
    rw [b1, vb 0 0 (by decide), va 0 0 (by decide)]
    exact hB
  have bF : cc_F m x b sb := cc_F_of aF (fun k i hk => vb k i (by omega))
  have bi : x < sb.1 := by rw [b1]; exact hi
  have bp : p < sb.2.1 := by rw [b21]; exact hp
  have bv : cs_v sb 30 p = cs_six (nI x) (nI x) 1 b 0 0 := by rw [vb 30 p (by decide), va 30 p (by decide)]; exact hv
  have g0b := cs_g (k := 0) (i := 0) ht2 rfl
  have g30b := cs_g (k := 30) (i := p) ht2 (if_pos bp)
  rw [bv] at g30b
  have z2 : ∀ c, cs_six (nI x) (nI x) c b 0 0 2 = c := fun _ => rfl
  have t1 : (1 : Int32).toInt = 1 := by decide
  have t2 : (2 : Int32).toInt = 2 := by decide
  simp [r65_64, r65_65, r65_68, r65_112, r65_113, r65_114, r65_115, r65_116, wo_nx, wo_ret, wo_ite, wo_call, bk_inl, mj_lda, mj_ldi, mj_sti, mj_sta, mj_b2, mj_br1, mj_br2, mj_brn, mj_ir, mj_rr, mj_nx, mj_gf, mj_fld, mj_k2, mj_rc, mj_cls, mj_dup, mj_inc, List.getElem?_cons_zero, List.getElem?_cons_succ, List.length_cons, List.length_nil, List.set_cons_succ, List.set_cons_zero, Nat.reduceAdd, Nat.reduceLT, if_true, if_false, mj_iif, decide_eq_true_eq, List.take_succ_cons, List.take_zero, List.reverse_cons, List.reverse_nil, List.nil_append, List.cons_append, List.drop_succ_cons, List.drop_zero, List.map_cons, List.map_nil, cat_i, cat_r, cat_n, Nat.reduceLeDiff, true_and, and_true, decide_true, Option.toList_some, Option.toList_none, and_self, Nat.le_refl, mj_vr, mj_zr, mj_th, wo_thr, mxl_0, mxl_1, mxl_2, mxl_3, mxl_4, mxl_5, mxl_6, mxl_7, mxl_8, mxl_9, mxl_10, mxl_11, mxl_12, mxl_13, mxl_14, mxl_15, mxl_16, mxl_17, mxl_18, mxl_19, mxl_20, mxl_21, mxl_22, mxl_23, mxl_24, mxl_25, mxl_26, mxl_27, mxl_28, mxl_29, mxl_30, mxl_31, mxl_32, mxl_33, mxl_34, mxl_35, mxl_36, mxl_37, mxl_38, mxl_39, mxl_40, mxl_41, mxl_42, mxl_43, mxl_44, mxl_45, mxl_46, mxl_47, mxl_48, mxl_49, mxl_50, mxl_51, mxl_52, mxl_53, mxl_54, mxl_55, mxl_56, mxl_57, mxl_58, mxl_59, mxl_60, mxl_61, mxl_62, mxl_63, mxl_64, mxl_65, mxl_66, mxl_67, mxl_68, mxl_69, mxl_70, mxl_71, mxl_72, mxl_73, mxl_74, mxl_75, mxl_76, mxl_77, mxl_78, mxl_79, mxl_80, mxl_81, mxl_82, mxl_83, mxl_84, mxl_85, mxl_86, mxl_136, mxl_137, mj_sw, g0b, g30b, z2, t1]
  obtain ⟨e01, e02, e03, e04, e05, e06, e07, e08, e09, e10, e11, e12⟩ := bF
  refine C_op (hd := 1) ht2 bB bi bp bv hMb (by rw [vb 3 0 (by decide), va 3 0 (by decide)]; exact h3) (by rw [vb 6 0 (by decide)]; exact a61) (by omega) (by rw [vb 6 0 (by decide)]; exact a62) btd b92 e05 e02 e03 (fun A3 τ3 sc hP hA3 ht3 u1 u2 => ?_)
  obtain ⟨p1, p2, p3, p4, p5, p6, p7, p8, p9, p10, p11, p12⟩ := hP
  have cF : cc_F m x b sc := cc_F_of ⟨e01, e02, e03, e04, e05, e06, e07, e08, e09, e10, e11, e12⟩ (fun k i hk => p12 k i (by omega) (by omega) (by omega) (by omega) (by omega) (by omega) (by omega))
  have cs1 : sc.1 = m := by rw [p1, b1, hs1]
  have q0 : A3 (0, 0) = A (0, 0) := hA3 0 0 (by omega)
  have q13 : A3 (13, x) = A (13, x) := hA3 13 x (by omega)
  have q30 : A3 (30, p) = A (30, p) := hA3 30 p (by omega)
  have q3 : A3 (3, 0) = A (3, 0) := hA3 3 0 (by omega)
  have g0c := cs_g (k := 0) (i := 0) ht3 rfl
  rw [q0] at g0c
  have g3c := cs_g (k := 3) (i := 0) ht3 rfl
  simp only [r65_119, r65_181, r64_43, r64_44, r64_47, r64_49, wo_nx, wo_ret, wo_ite, wo_call, bk_inl, mj_lda, mj_ldi, mj_sti, mj_sta, mj_b2, mj_br1, mj_br2, mj_brn, mj_ir, mj_rr, mj_nx, mj_gf, mj_fld, mj_k2, mj_rc, mj_cls, mj_dup, mj_inc, List.getElem?_cons_zero, List.getElem?_cons_succ, List.length_cons, List.length_nil, List.set_cons_succ, List.set_cons_zero, Nat.reduceAdd, Nat.reduceLT, if_true, if_false, mj_iif, decide_eq_true_eq, List.take_succ_cons, List.take_zero, List.reverse_cons, List.reverse_nil, List.nil_append, List.cons_append, List.drop_succ_cons, List.drop_zero, List.map_cons, List.map_nil, cat_i, cat_r, cat_n, Nat.reduceLeDiff, true_and, and_true, decide_true, Option.toList_some, Option.toList_none, and_self, Nat.le_refl, mj_vr, mj_zr, mj_th, wo_thr, mxl_0, mxl_1, mxl_2, mxl_3, mxl_4, mxl_5, mxl_6, mxl_7, mxl_8, mxl_9, mxl_10, mxl_11, mxl_12, mxl_13, mxl_14, mxl_15, mxl_16, mxl_17, mxl_18, mxl_19, mxl_20, mxl_21, mxl_22, mxl_23, mxl_24, mxl_25, mxl_26, mxl_27, mxl_28, mxl_29, mxl_30, mxl_31, mxl_32, mxl_33, mxl_34, mxl_35, mxl_36, mxl_37, mxl_38, mxl_39, mxl_40, mxl_41, mxl_42, mxl_43, mxl_44, mxl_45, mxl_46, mxl_47, mxl_48, mxl_49, mxl_50, mxl_51, mxl_52, mxl_53, mxl_54, mxl_55, mxl_56, mxl_57, mxl_58, mxl_59, mxl_60, mxl_61, mxl_62, mxl_63, mxl_64, mxl_65, mxl_66, mxl_67, mxl_68, mxl_69, mxl_70, mxl_71, mxl_72, mxl_73, mxl_74, mxl_75, mxl_76, mxl_77, mxl_78, mxl_79, mxl_80, mxl_81, mxl_82, mxl_83, mxl_84, mxl_85, mxl_86, mxl_136, mxl_137, g0c, g3c]
  rw [← q30]
  refine C_rel (u := 0) ht3 (by rw [p2]; omega) p4 (by omega) (fun τ4 n4 ht4 => ?_)
  have hM4 : cs_M (cs_rel sc 0 p) 0 := M_rel p3 (by rw [p2]; omega) p4 (by omega)
  generalize hsd : cs_rel sc 0 p = sd at ht4 hM4
  have vd : ∀ k i, k ≠ 3 → cs_v sd k i = cs_v sc k i := fun k i hk => by rw [← hsd]; exact cs_u_ne (by omega)
  have d1 : sd.1 = m := by rw [← hsd]; exact cs1
  have d21 : sd.2.1 = s.2.1 + 1 := by rw [← hsd]; show sc.2.1 = _; rw [p2, b21]
  have dtd : sd.2.2.1 s.2.1 = true := by rw [← hsd, ← b21]; exact p9
  have dr7 : cs_r sd 7 1 = some s.2.1 := by
    have e7 : cs_r (cs_rel sc 0 p) 7 = cs_r sc 7 := rfl
    rw [← hsd, e7, ← b21]
    exact p7
  have dF : cc_F m x b sd := cc_F_of cF (fun k i hk => vd k i (by omega))
  have dB : cs_B sd := ⟨by omega, by omega, by rw [d1]; exact dF.2.2.2.2.2.2.2.2.2.2.1, by rw [d1]; exact dF.2.2.2.2.2.2.2.2.2.2.2⟩
  have d61 : cs_v sd 6 0 1 = nI 1 := by rw [vd 6 0 (by decide)]; exact p5
  have d62 : cs_v sd 6 0 2 = nI 1 := by rw [vd 6 0 (by decide)]; exact p6
  have d30 : cs_v sd 30 s.2.1 = cs_six (nI x) (nI x) 2 b 0 0 := by rw [vd 30 _ (by decide), ← b21]; exact p8
  have d312 : cs_v sd 31 s.2.1 2 = 0 := by rw [vd 31 _ (by decide), ← b21]; exact p10
  have d313 : cs_v sd 31 s.2.1 3 = nI 0 := by rw [vd 31 _ (by decide), ← b21]; exact p11
  have dQ6 : cs_Q sd 6 1 1 := ⟨d61, by omega, d62, by omega, fun i hi => ⟨s.2.1, by rw [show (1 + i) % 300 = 1 by omega]; exact dr7⟩⟩
  have g0d := cs_g (k := 0) (i := 0) ht4 rfl
  rw [q0] at g0d
  have g3d := cs_g (k := 3) (i := 0) ht4 rfl
  have g6d := cs_g (k := 6) (i := 0) ht4 rfl
  simp only [r64_52, r64_65, r64_68, r64_13, r64_14, r64_16, r64_19, r64_20, r64_23, r64_26, r64_27, wo_nx, wo_ret, wo_ite, wo_call, bk_inl, mj_lda, mj_ldi, mj_sti, mj_sta, mj_b2, mj_br1, mj_br2, mj_brn, mj_ir, mj_rr, mj_nx, mj_gf, mj_fld, mj_k2, mj_rc, mj_cls, mj_dup, mj_inc, List.getElem?_cons_zero, List.getElem?_cons_succ, List.length_cons, List.length_nil, List.set_cons_succ, List.set_cons_zero, Nat.reduceAdd, Nat.reduceLT, if_true, if_false, mj_iif, decide_eq_true_eq, List.take_succ_cons, List.take_zero, List.reverse_cons, List.reverse_nil, List.nil_append, List.cons_append, List.drop_succ_cons, List.drop_zero, List.map_cons, List.map_nil, cat_i, cat_r, cat_n, Nat.reduceLeDiff, true_and, and_true, decide_true, Option.toList_some, Option.toList_none, and_self, Nat.le_refl, mj_vr, mj_zr, mj_th, wo_thr, mxl_0, mxl_1, mxl_2, mxl_3, mxl_4, mxl_5, mxl_6, mxl_7, mxl_8, mxl_9, mxl_10, mxl_11, mxl_12, mxl_13, mxl_14, mxl_15, mxl_16, mxl_17, mxl_18, mxl_19, mxl_20, mxl_21, mxl_22, mxl_23, mxl_24, mxl_25, mxl_26, mxl_27, mxl_28, mxl_29, mxl_30, mxl_31, mxl_32, mxl_33, mxl_34, mxl_35, mxl_36, mxl_37, mxl_38, mxl_39, mxl_40, mxl_41, mxl_42, mxl_43, mxl_44, mxl_45, mxl_46, mxl_47, mxl_48, mxl_49, mxl_50, mxl_51, mxl_52, mxl_53, mxl_54, mxl_55, mxl_56, mxl_57, mxl_58, mxl_59, mxl_60, mxl_61, mxl_62, mxl_63, mxl_64, mxl_65, mxl_66, mxl_67, mxl_68, mxl_69, mxl_70, mxl_71, mxl_72, mxl_73, mxl_74, mxl_75, mxl_76, mxl_77, mxl_78, mxl_79, mxl_80, mxl_81, mxl_82, mxl_83, mxl_84, mxl_85, mxl_86, mxl_136, mxl_137, g0d, g3d, g6d, c2]
  refine C_take (i := 0) (hd := 1) (n := 1) (x := s.2.1) (Or.inr rfl) ht4 hM4.1 dQ6 (by omega) dr7 (fun τ5 n5 ht5 => ?_)
  have hM5 : cs_M (cs_take sd 6 1 1 0) 1 := M_take (Or.inr rfl) hM4 dQ6 (by omega)
  generalize hse : cs_take sd 6 1 1 0 = se at ht5 hM5
  have ve : ∀ k i, k ≠ 6 → cs_v se k i = cs_v sd k i := fun k i hk => by rw [← hse]; exact take_vn (by omega)
  have f1 : se.1 = m := by rw [← hse]; exact d1
  have f21 : se.2.1 = s.2.1 + 1 := by rw [← hse]; exact d21
  have ftd : se.2.2.1 s.2.1 = true := by rw [← hse]; exact dtd
  have f62 : cs_v se 6 0 2 = nI 0 := by rw [← hse, take_v, w_set_at]
  have eF : cc_F m x b se := cc_F_of dF (fun k i hk => ve k i (by omega))
  have eB : cs_B se := ⟨by omega, by omega, by rw [f1]; exact eF.2.2.2.2.2.2.2.2.2.2.1, by rw [f1]; exact eF.2.2.2.2.2.2.2.2.2.2.2⟩
  have g0e := cs_g (k := 0) (i := 0) ht5 rfl
  rw [q0] at g0e
  simp only [r64_30, r64_32, r64_34, r64_37, r64_38, r64_40, wo_nx, wo_ret, wo_ite, wo_call, bk_inl, mj_lda, mj_ldi, mj_sti, mj_sta, mj_b2, mj_br1, mj_br2, mj_brn, mj_ir, mj_rr, mj_nx, mj_gf, mj_fld, mj_k2, mj_rc, mj_cls, mj_dup, mj_inc, List.getElem?_cons_zero, List.getElem?_cons_succ, List.length_cons, List.length_nil, List.set_cons_succ, List.set_cons_zero, Nat.reduceAdd, Nat.reduceLT, if_true, if_false, mj_iif, decide_eq_true_eq, List.take_succ_cons, List.take_zero, List.reverse_cons, List.reverse_nil, List.nil_append, List.cons_append, List.drop_succ_cons, List.drop_zero, List.map_cons, List.map_nil, cat_i, cat_r, cat_n, Nat.reduceLeDiff, true_and, and_true, decide_true, Option.toList_some, Option.toList_none, and_self, Nat.le_refl, mj_vr, mj_zr, mj_th, wo_thr, mxl_0, mxl_1, mxl_2, mxl_3, mxl_4, mxl_5, mxl_6, mxl_7, mxl_8, mxl_9, mxl_10, mxl_11, mxl_12, mxl_13, mxl_14, mxl_15, mxl_16, mxl_17, mxl_18, mxl_19, mxl_20, mxl_21, mxl_22, mxl_23, mxl_24, mxl_25, mxl_26, mxl_27, mxl_28, mxl_29, mxl_30, mxl_31, mxl_32, mxl_33, mxl_34, mxl_35, mxl_36, mxl_37, mxl_38, mxl_39, mxl_40, mxl_41, mxl_42, mxl_43, mxl_44, mxl_45, mxl_46, mxl_47, mxl_48, mxl_49, mxl_50, mxl_51, mxl_52, mxl_53, mxl_54, mxl_55, mxl_56, mxl_57, mxl_58, mxl_59, mxl_60, mxl_61, mxl_62, mxl_63, mxl_64, mxl_65, mxl_66, mxl_67, mxl_68, mxl_69, mxl_70, mxl_71, mxl_72, mxl_73, mxl_74, mxl_75, mxl_76, mxl_77, mxl_78, mxl_79, mxl_80, mxl_81, mxl_82, mxl_83, mxl_84, mxl_85, mxl_86, mxl_136, mxl_137, g0e]
  rw [← q0]
  refine C_hd (p := s.2.1) (c := 2) (d := 0) (f := 0) ht5 eB (by rw [f1]; exact hx) (by rw [f21]; omega) (by rw [ve 30 _ (by decide)]; exact d30) eF.2.2.2.2.2.2.2.1 (fun τ6 n6 ht6 => ?_)
  generalize hsf : cs_u se 9 x (upd (cs_v se 9 x) 3 (cs_v se 9 x 3 + 1)) = sf at ht6
  have vf : ∀ k i, k ≠ 9 → cs_v sf k i = cs_v se k i := fun k i hk => by rw [← hsf]; exact cs_u_ne (by omega)
  have h1f : sf.1 = m := by rw [← hsf]; exact f1
  have h21f : sf.2.1 = s.2.1 + 1 := by rw [← hsf]; exact f21
  have htdf : sf.2.2.1 s.2.1 = true := by rw [← hsf]; exact ftd
  have fF : cc_F m x b sf := cc_F_of eF (fun k i hk => vf k i (by omega))
  have fv : cs_v sf 30 s.2.1 = cs_six (nI x) (nI x) 2 b 0 0 := by rw [vf 30 _ (by decide), ve 30 _ (by decide)]; exact d30
  have fp : s.2.1 < sf.2.1 := by rw [h21f]; omega
  have g0f := cs_g (k := 0) (i := 0) ht6 rfl
  have g30f := cs_g (k := 30) (i := s.2.1) ht6 (if_pos fp)
  rw [fv] at g30f
  simp [r65_64, r65_65, r65_68, r65_122, r65_123, r65_124, r65_125, wo_nx, wo_ret, wo_ite, wo_call, bk_inl, mj_lda, mj_ldi, mj_sti, mj_sta, mj_b2, mj_br1, mj_br2, mj_brn, mj_ir, mj_rr, mj_nx, mj_gf, mj_fld, mj_k2, mj_rc, mj_cls, mj_dup, mj_inc, List.getElem?_cons_zero, List.getElem?_cons_succ, List.length_cons, List.length_nil, List.set_cons_succ, List.set_cons_zero, Nat.reduceAdd, Nat.reduceLT, if_true, if_false, mj_iif, decide_eq_true_eq, List.take_succ_cons, List.take_zero, List.reverse_cons, List.reverse_nil, List.nil_append, List.cons_append, List.drop_succ_cons, List.drop_zero, List.map_cons, List.map_nil, cat_i, cat_r, cat_n, Nat.reduceLeDiff, true_and, and_true, decide_true, Option.toList_some, Option.toList_none, and_self, Nat.le_refl, mj_vr, mj_zr, mj_th, wo_thr, mxl_0, mxl_1, mxl_2, mxl_3, mxl_4, mxl_5, mxl_6, mxl_7, mxl_8, mxl_9, mxl_10, mxl_11, mxl_12, mxl_13, mxl_14, mxl_15, mxl_16, mxl_17, mxl_18, mxl_19, mxl_20, mxl_21, mxl_22, mxl_23, mxl_24, mxl_25, mxl_26, mxl_27, mxl_28, mxl_29, mxl_30, mxl_31, mxl_32, mxl_33, mxl_34, mxl_35, mxl_36, mxl_37, mxl_38, mxl_39, mxl_40, mxl_41, mxl_42, mxl_43, mxl_44, mxl_45, mxl_46, mxl_47, mxl_48, mxl_49, mxl_50, mxl_51, mxl_52, mxl_53, mxl_54, mxl_55, mxl_56, mxl_57, mxl_58, mxl_59, mxl_60, mxl_61, mxl_62, mxl_63, mxl_64, mxl_65, mxl_66, mxl_67, mxl_68, mxl_69, mxl_70, mxl_71, mxl_72, mxl_73, mxl_74, mxl_75, mxl_76, mxl_77, mxl_78, mxl_79, mxl_80, mxl_81, mxl_82, mxl_83, mxl_84, mxl_85, mxl_86, mxl_136, mxl_137, mj_sw, g0f, g30f, z2, t2]
  refine C_oq hm h1f hx ht6 fp htdf fv (by rw [vf 31 _ (by decide), ve 31 _ (by decide)]; exact d312) (by rw [vf 31 _ (by decide), ve 31 _ (by decide)]; exact d313) fF (fun τ7 n7 ht7 => ?_)
  generalize hsg : cs_count sf x x 31 s.2.1 0 = sg at ht7
  have vg : ∀ k i, k ≠ 20 → k ≠ 27 → k ≠ 28 → k ≠ 29 → cs_v sg k i = cs_v sf k i := fun k i a1 a2 a3 a4 => by
    rw [← hsg]
    unfold cs_count cs_cp cs_u3
    rw [cs_u_ne (by omega), cs_u_ne (by omega), cs_u_ne (by omega), cs_u_ne (by omega)]
  have g1g : sg.1 = m := by rw [← hsg]; exact h1f
  have g21g : sg.2.1 = s.2.1 + 1 := by rw [← hsg]; exact h21f
  have hMg : cs_M sg 1 := M_of hM5 (by rw [g21g, f21]) (by rw [← hsg, ← hsf]; rfl) (by rw [vg 3 0 (by decide) (by decide) (by decide) (by decide), vf 3 0 (by decide)]) (by rw [vg 4 0 (by decide) (by decide) (by decide) (by decide), vf 4 0 (by decide)]) (by rw [vg 6 0 (by decide) (by decide) (by decide) (by decide), vf 6 0 (by decide)])
  have g62 : cs_v sg 6 0 2 = nI 0 := by rw [vg 6 0 (by decide) (by decide) (by decide) (by decide), vf 6 0 (by decide)]; exact f62
  have g33 : cs_v sg 3 0 3 = nI 1 := by
    rw [vg 3 0 (by decide) (by decide) (by decide) (by decide), vf 3 0 (by decide), ve 3 0 (by decide), ← hsd]
    unfold cs_rel
    rw [cs_u_eq, w_set_at]
  have g206 : cs_v sg 20 x 6 = 1 := by
    rw [← hsg]
    unfold cs_count
    rw [cs_u_eq, w_set_ne (by decide)]
    exact fF.2.2.2.2.2.2.1
  have G0 := cs_g (k := 0) (i := 0) ht7 rfl
  have G3 := cs_g (k := 3) (i := 0) ht7 rfl
  simp only [r65_128, r65_181, r64_43, r64_44, r64_47, r64_49, wo_nx, wo_ret, wo_ite, wo_call, bk_inl, mj_lda, mj_ldi, mj_sti, mj_sta, mj_b2, mj_br1, mj_br2, mj_brn, mj_ir, mj_rr, mj_nx, mj_gf, mj_fld, mj_k2, mj_rc, mj_cls, mj_dup, mj_inc, List.getElem?_cons_zero, List.getElem?_cons_succ, List.length_cons, List.length_nil, List.set_cons_succ, List.set_cons_zero, Nat.reduceAdd, Nat.reduceLT, if_true, if_false, mj_iif, decide_eq_true_eq, List.take_succ_cons, List.take_zero, List.reverse_cons, List.reverse_nil, List.nil_append, List.cons_append, List.drop_succ_cons, List.drop_zero, List.map_cons, List.map_nil, cat_i, cat_r, cat_n, Nat.reduceLeDiff, true_and, and_true, decide_true, Option.toList_some, Option.toList_none, and_self, Nat.le_refl, mj_vr, mj_zr, mj_th, wo_thr, mxl_0, mxl_1, mxl_2, mxl_3, mxl_4, mxl_5, mxl_6, mxl_7, mxl_8, mxl_9, mxl_10, mxl_11, mxl_12, mxl_13, mxl_14, mxl_15, mxl_16, mxl_17, mxl_18, mxl_19, mxl_20, mxl_21, mxl_22, mxl_23, mxl_24, mxl_25, mxl_26, mxl_27, mxl_28, mxl_29, mxl_30, mxl_31, mxl_32, mxl_33, mxl_34, mxl_35, mxl_36, mxl_37, mxl_38, mxl_39, mxl_40, mxl_41, mxl_42, mxl_43, mxl_44, mxl_45, mxl_46, mxl_47, mxl_48, mxl_49, mxl_50, mxl_51, mxl_52, mxl_53, mxl_54, mxl_55, mxl_56, mxl_57, mxl_58, mxl_59, mxl_60, mxl_61, mxl_62, mxl_63, mxl_64, mxl_65, mxl_66, mxl_67, mxl_68, mxl_69, mxl_70, mxl_71, mxl_72, mxl_73, mxl_74, mxl_75, mxl_76, mxl_77, mxl_78, mxl_79, mxl_80, mxl_81, mxl_82, mxl_83, mxl_84, mxl_85, mxl_86, mxl_136, mxl_137, G0, G3]
  refine C_rel (u := 1) ht7 (by rw [g21g]; omega) g33 (by omega) (fun τ8 n8 ht8 => ?_)
  generalize hsh : cs_rel sg 1 s.2.1 = sh at ht8
  have vh : ∀ k i, k ≠ 3 → cs_v sh k i = cs_v sg k i := fun k i hk => by rw [← hsh]; exact cs_u_ne (by omega)
  have h1h : sh.1 = m := by rw [← hsh]; exact g1g
  have h6h : cs_v sh 6 0 2 = 0 := by rw [vh 6 0 (by decide), g62]; rfl
  have h20h : ¬ cs_v sh 20 x 6 = 2 := by rw [vh 20 x (by decide), g206]; decide
  have H0 := cs_g (k := 0) (i := 0) ht8 rfl
  have H3 := cs_g (k := 3) (i := 0) ht8 rfl
  have H6 := cs_g (k := 6) (i := 0) ht8 rfl
  have H6' := H6
  rw [h6h, ← nI_0] at H6'
  have htk : ∀ Q' : (Option Value ⊕ String) → mj_S → Prop, mj_wp (tb ar) 30 (mj_en (tb ar) 30 [.ref (A3 (6, 0)), .int 0] τ8) Q' ↔ Q' (.inl (some .null)) τ8 := fun Q' => q_take_no H6' (Or.inr (by decide))
  have hg := fun Q' : (Option Value ⊕ String) → mj_S → Prop => C_goOn0 (Q := Q') (x := nI x) ht8 (show x < sh.1 by rw [h1h]; exact hx) h20h h6h
  rw [q13] at hg
  simp only [r64_52, r64_65, r64_68, r64_13, r64_14, r64_16, r64_19, r64_20, r64_23, r64_26, r64_27, r64_30, r64_32, r64_34, r64_55, r64_56, r64_57, r64_58, r64_61, r64_64, wo_nx, wo_ret, wo_ite, wo_call, bk_inl, mj_lda, mj_ldi, mj_sti, mj_sta, mj_b2, mj_br1, mj_br2, mj_brn, mj_ir, mj_rr, mj_nx, mj_gf, mj_fld, mj_k2, mj_rc, mj_cls, mj_dup, mj_inc, List.getElem?_cons_zero, List.getElem?_cons_succ, List.length_cons, List.length_nil, List.set_cons_succ, List.set_cons_zero, Nat.reduceAdd, Nat.reduceLT, if_true, if_false, mj_iif, decide_eq_true_eq, List.take_succ_cons, List.take_zero, List.reverse_cons, List.reverse_nil, List.nil_append, List.cons_append, List.drop_succ_cons, List.drop_zero, List.map_cons, List.map_nil, cat_i, cat_r, cat_n, Nat.reduceLeDiff, true_and, and_true, decide_true, Option.toList_some, Option.toList_none, and_self, Nat.le_refl, mj_vr, mj_zr, mj_th, wo_thr, mxl_0, mxl_1, mxl_2, mxl_3, mxl_4, mxl_5, mxl_6, mxl_7, mxl_8, mxl_9, mxl_10, mxl_11, mxl_12, mxl_13, mxl_14, mxl_15, mxl_16, mxl_17, mxl_18, mxl_19, mxl_20, mxl_21, mxl_22, mxl_23, mxl_24, mxl_25, mxl_26, mxl_27, mxl_28, mxl_29, mxl_30, mxl_31, mxl_32, mxl_33, mxl_34, mxl_35, mxl_36, mxl_37, mxl_38, mxl_39, mxl_40, mxl_41, mxl_42, mxl_43, mxl_44, mxl_45, mxl_46, mxl_47, mxl_48, mxl_49, mxl_50, mxl_51, mxl_52, mxl_53, mxl_54, mxl_55, mxl_56, mxl_57, mxl_58, mxl_59, mxl_60, mxl_61, mxl_62, mxl_63, mxl_64, mxl_65, mxl_66, mxl_67, mxl_68, mxl_69, mxl_70, mxl_71, mxl_72, mxl_73, mxl_74, mxl_75, mxl_76, mxl_77, mxl_78, mxl_79, mxl_80, mxl_81, mxl_82, mxl_83, mxl_84, mxl_85, mxl_86, mxl_136, mxl_137, H0, H3, H6, c3, htk, hg, ne_eq, not_true_eq_false]
  refine hQ τ8 ?_ ?_
  · have := n1.1; have := n2.1; have := n4.1; have := n5.1; have := n6.1; have := n7.1; have := n8.1
    omega
  · have := n1.2; have := n2.2; have := n4.2; have := n5.2; have := n6.2; have := n7.2; have := n8.2
    omega
end CX
