section DD
variable {ar : Nat → ClassId} {A A0 A' : tg_T → Nat} {s s0 s' s1 : cs_S} {σ σ0 τ : mj_S} {k i : Nat} {Q : (Option Value ⊕ String) → mj_S → Prop} {W O U hd L W1 W2 : List Nat} {x : Nat} {w : Nat → Int32}
theorem C_quo {st M : Int32} (h : tg_R A (cs_h ar A s) σ) : ∃ b : Int32, (b = 0 ∨ b = 1) ∧ ∀ Q : (Option Value ⊕ String) → mj_S → Prop, mj_wp (tb ar) 62 (mj_en (tb ar) 62 [.ref (A (0, 0)), .int st, .int M] σ) Q ↔ Q (.inl (some (.int b))) σ := by
  have g0 := cs_g (k := 0) (i := 0) h rfl
  by_cases c1 : st &&& M = 0
  · refine ⟨0, Or.inl rfl, fun Q => ?_⟩
    rw [ent_62]
    simp only [r62_0, r62_1, r62_2, r62_3, r62_4, r62_5, r62_8, r62_9, wo_nx, wo_ret, wo_ite, wo_call, bk_inl, mj_lda, mj_ldi, mj_sti, mj_sta, mj_b2, mj_br1, mj_br2, mj_brn, mj_ir, mj_rr, mj_nx, mj_gf, mj_fld, mj_k2, mj_rc, mj_cls, mj_dup, mj_inc, List.getElem?_cons_zero, List.getElem?_cons_succ, List.length_cons, List.length_nil, List.set_cons_succ, List.set_cons_zero, Nat.reduceAdd, Nat.reduceLT, if_true, if_false, mj_iif, decide_eq_true_eq, List.take_succ_cons, List.take_zero, List.reverse_cons, List.reverse_nil, List.nil_append, List.cons_append, List.drop_succ_cons, List.drop_zero, List.map_cons, List.map_nil, cat_i, cat_r, cat_n, Nat.reduceLeDiff, true_and, and_true, decide_true, Option.toList_some, Option.toList_none, and_self, Nat.le_refl, mj_vr, mj_zr, mj_th, wo_thr, mxl_0, mxl_1, mxl_2, mxl_3, mxl_4, mxl_5, mxl_6, mxl_7, mxl_8, mxl_9, mxl_10, mxl_11, mxl_12, mxl_13, mxl_14, mxl_15, mxl_16, mxl_17, mxl_18, mxl_19, mxl_20, mxl_21, mxl_22, mxl_23, mxl_24, mxl_25, mxl_26, mxl_27, mxl_28, mxl_29, mxl_30, mxl_31, mxl_32, mxl_33, mxl_34, mxl_35, mxl_36, mxl_37, mxl_38, mxl_39, mxl_40, mxl_41, mxl_42, mxl_43, mxl_44, mxl_45, mxl_46, mxl_47, mxl_48, mxl_49, mxl_50, mxl_51, mxl_52, mxl_53, mxl_54, mxl_55, mxl_56, mxl_57, mxl_58, mxl_59, mxl_60, mxl_61, mxl_62, mxl_63, mxl_64, mxl_65, mxl_66, mxl_67, mxl_68, mxl_69, mxl_70, mxl_71, mxl_72, mxl_73, mxl_74, mxl_75, mxl_76, mxl_77, mxl_78, mxl_79, mxl_80, mxl_81, mxl_82, mxl_83, mxl_84, mxl_85, mxl_86, mxl_136, mxl_137, c1, ne_eq, not_true_eq_false, true_or]
  · by_cases c2 : st &&& M = M
    · refine ⟨1, Or.inr rfl, fun Q => ?_⟩
      have c1' : ¬ M = 0 := by
        rw [c2] at c1
        exact c1
      rw [ent_62]
      simp only [r62_0, r62_1, r62_2, r62_3, r62_4, r62_5, r62_10, r62_11, r62_12, r62_15, r62_16, r62_18, r62_19, r62_20, r62_40, r62_41, r62_45, wo_nx, wo_ret, wo_ite, wo_call, bk_inl, mj_lda, mj_ldi, mj_sti, mj_sta, mj_b2, mj_br1, mj_br2, mj_brn, mj_ir, mj_rr, mj_nx, mj_gf, mj_fld, mj_k2, mj_rc, mj_cls, mj_dup, mj_inc, List.getElem?_cons_zero, List.getElem?_cons_succ, List.length_cons, List.length_nil, List.set_cons_succ, List.set_cons_zero, Nat.reduceAdd, Nat.reduceLT, if_true, if_false, mj_iif, decide_eq_true_eq, List.take_succ_cons, List.take_zero, List.reverse_cons, List.reverse_nil, List.nil_append, List.cons_append, List.drop_succ_cons, List.drop_zero, List.map_cons, List.map_nil, cat_i, cat_r, cat_n, Nat.reduceLeDiff, true_and, and_true, decide_true, Option.toList_some, Option.toList_none, and_self, Nat.le_refl, mj_vr, mj_zr, mj_th, wo_thr, mxl_0, mxl_1, mxl_2, mxl_3, mxl_4, mxl_5, mxl_6, mxl_7, mxl_8, mxl_9, mxl_10, mxl_11, mxl_12, mxl_13, mxl_14, mxl_15, mxl_16, mxl_17, mxl_18, mxl_19, mxl_20, mxl_21, mxl_22, mxl_23, mxl_24, mxl_25, mxl_26, mxl_27, mxl_28, mxl_29, mxl_30, mxl_31, mxl_32, mxl_33, mxl_34, mxl_35, mxl_36, mxl_37, mxl_38, mxl_39, mxl_40, mxl_41, mxl_42, mxl_43, mxl_44, mxl_45, mxl_46, mxl_47, mxl_48, mxl_49, mxl_50, mxl_51, mxl_52, mxl_53, mxl_54, mxl_55, mxl_56, mxl_57, mxl_58, mxl_59, mxl_60, mxl_61, mxl_62, mxl_63, mxl_64, mxl_65, mxl_66, mxl_67, mxl_68, mxl_69, mxl_70, mxl_71, mxl_72, mxl_73, mxl_74, mxl_75, mxl_76, mxl_77, mxl_78, mxl_79, mxl_80, mxl_81, mxl_82, mxl_83, mxl_84, mxl_85, mxl_86, mxl_136, mxl_137, g0, c1', c2, ne_eq, not_false_eq_true, or_true]
    · by_cases c3 : 2 * bc_ (st &&& (M ||| cs_v s 0 0 2)) ≤ bc_ (M ||| cs_v s 0 0 2)
      · exact ⟨0, Or.inl rfl, fun Q => C_quorum0 h c1 c2 c3⟩
      · refine ⟨1, Or.inr rfl, fun Q => ?_⟩
        rw [ent_62]
        simp only [r62_0, r62_1, r62_2, r62_3, r62_4, r62_5, r62_10, r62_11, r62_12, r62_15, r62_16, r62_18, r62_19, r62_20, r62_23, r62_24, r62_25, r62_27, r62_28, wo_nx, wo_ret, wo_ite, wo_call, bk_inl, mj_lda, mj_ldi, mj_sti, mj_sta, mj_b2, mj_br1, mj_br2, mj_brn, mj_ir, mj_rr, mj_nx, mj_gf, mj_fld, mj_k2, mj_rc, mj_cls, mj_dup, mj_inc, List.getElem?_cons_zero, List.getElem?_cons_succ, List.length_cons, List.length_nil, List.set_cons_succ, List.set_cons_zero, Nat.reduceAdd, Nat.reduceLT, if_true, if_false, mj_iif, decide_eq_true_eq, List.take_succ_cons, List.take_zero, List.reverse_cons, List.reverse_nil, List.nil_append, List.cons_append, List.drop_succ_cons, List.drop_zero, List.map_cons, List.map_nil, cat_i, cat_r, cat_n, Nat.reduceLeDiff, true_and, and_true, decide_true, Option.toList_some, Option.toList_none, and_self, Nat.le_refl, mj_vr, mj_zr, mj_th, wo_thr, mxl_0, mxl_1, mxl_2, mxl_3, mxl_4, mxl_5, mxl_6, mxl_7, mxl_8, mxl_9, mxl_10, mxl_11, mxl_12, mxl_13, mxl_14, mxl_15, mxl_16, mxl_17, mxl_18, mxl_19, mxl_20, mxl_21, mxl_22, mxl_23, mxl_24, mxl_25, mxl_26, mxl_27, mxl_28, mxl_29, mxl_30, mxl_31, mxl_32, mxl_33, mxl_34, mxl_35, mxl_36, mxl_37, mxl_38, mxl_39, mxl_40, mxl_41, mxl_42, mxl_43, mxl_44, mxl_45, mxl_46, mxl_47, mxl_48, mxl_49, mxl_50, mxl_51, mxl_52, mxl_53, mxl_54, mxl_55, mxl_56, mxl_57, mxl_58, mxl_59, mxl_60, mxl_61, mxl_62, mxl_63, mxl_64, mxl_65, mxl_66, mxl_67, mxl_68, mxl_69, mxl_70, mxl_71, mxl_72, mxl_73, mxl_74, mxl_75, mxl_76, mxl_77, mxl_78, mxl_79, mxl_80, mxl_81, mxl_82, mxl_83, mxl_84, mxl_85, mxl_86, mxl_136, mxl_137, g0, c1, c2, ne_eq, not_false_eq_true, K_bc]
        simp only [r62_31, r62_32, r62_34, wo_nx, wo_ret, wo_ite, wo_call, bk_inl, mj_lda, mj_ldi, mj_sti, mj_sta, mj_b2, mj_br1, mj_br2, mj_brn, mj_ir, mj_rr, mj_nx, mj_gf, mj_fld, mj_k2, mj_rc, mj_cls, mj_dup, mj_inc, List.getElem?_cons_zero, List.getElem?_cons_succ, List.length_cons, List.length_nil, List.set_cons_succ, List.set_cons_zero, Nat.reduceAdd, Nat.reduceLT, if_true, if_false, mj_iif, decide_eq_true_eq, List.take_succ_cons, List.take_zero, List.reverse_cons, List.reverse_nil, List.nil_append, List.cons_append, List.drop_succ_cons, List.drop_zero, List.map_cons, List.map_nil, cat_i, cat_r, cat_n, Nat.reduceLeDiff, true_and, and_true, decide_true, Option.toList_some, Option.toList_none, and_self, Nat.le_refl, mj_vr, mj_zr, mj_th, wo_thr, mxl_0, mxl_1, mxl_2, mxl_3, mxl_4, mxl_5, mxl_6, mxl_7, mxl_8, mxl_9, mxl_10, mxl_11, mxl_12, mxl_13, mxl_14, mxl_15, mxl_16, mxl_17, mxl_18, mxl_19, mxl_20, mxl_21, mxl_22, mxl_23, mxl_24, mxl_25, mxl_26, mxl_27, mxl_28, mxl_29, mxl_30, mxl_31, mxl_32, mxl_33, mxl_34, mxl_35, mxl_36, mxl_37, mxl_38, mxl_39, mxl_40, mxl_41, mxl_42, mxl_43, mxl_44, mxl_45, mxl_46, mxl_47, mxl_48, mxl_49, mxl_50, mxl_51, mxl_52, mxl_53, mxl_54, mxl_55, mxl_56, mxl_57, mxl_58, mxl_59, mxl_60, mxl_61, mxl_62, mxl_63, mxl_64, mxl_65, mxl_66, mxl_67, mxl_68, mxl_69, mxl_70, mxl_71, mxl_72, mxl_73, mxl_74, mxl_75, mxl_76, mxl_77, mxl_78, mxl_79, mxl_80, mxl_81, mxl_82, mxl_83, mxl_84, mxl_85, mxl_86, mxl_136, mxl_137, K_bc]
        simp only [r62_37, r62_40, r62_41, r62_45, wo_nx, wo_ret, wo_ite, wo_call, bk_inl, mj_lda, mj_ldi, mj_sti, mj_sta, mj_b2, mj_br1, mj_br2, mj_brn, mj_ir, mj_rr, mj_nx, mj_gf, mj_fld, mj_k2, mj_rc, mj_cls, mj_dup, mj_inc, List.getElem?_cons_zero, List.getElem?_cons_succ, List.length_cons, List.length_nil, List.set_cons_succ, List.set_cons_zero, Nat.reduceAdd, Nat.reduceLT, if_true, if_false, mj_iif, decide_eq_true_eq, List.take_succ_cons, List.take_zero, List.reverse_cons, List.reverse_nil, List.nil_append, List.cons_append, List.drop_succ_cons, List.drop_zero, List.map_cons, List.map_nil, cat_i, cat_r, cat_n, Nat.reduceLeDiff, true_and, and_true, decide_true, Option.toList_some, Option.toList_none, and_self, Nat.le_refl, mj_vr, mj_zr, mj_th, wo_thr, mxl_0, mxl_1, mxl_2, mxl_3, mxl_4, mxl_5, mxl_6, mxl_7, mxl_8, mxl_9, mxl_10, mxl_11, mxl_12, mxl_13, mxl_14, mxl_15, mxl_16, mxl_17, mxl_18, mxl_19, mxl_20, mxl_21, mxl_22, mxl_23, mxl_24, mxl_25, mxl_26, mxl_27, mxl_28, mxl_29, mxl_30, mxl_31, mxl_32, mxl_33, mxl_34, mxl_35, mxl_36, mxl_37, mxl_38, mxl_39, mxl_40, mxl_41, mxl_42, mxl_43, mxl_44, mxl_45, mxl_46, mxl_47, mxl_48, mxl_49, mxl_50, mxl_51, mxl_52, mxl_53, mxl_54, mxl_55, mxl_56, mxl_57, mxl_58, mxl_59, mxl_60, mxl_61, mxl_62, mxl_63, mxl_64, mxl_65, mxl_66, mxl_67, mxl_68, mxl_69, mxl_70, mxl_71, mxl_72, mxl_73, mxl_74, mxl_75, mxl_76, mxl_77, mxl_78, mxl_79, mxl_80, mxl_81, mxl_82, mxl_83, mxl_84, mxl_85, mxl_86, mxl_136, mxl_137, c3, or_true]
theorem C_next {a x : Int32} : ∃ v : Int32, ∀ Q : (Option Value ⊕ String) → mj_S → Prop, mj_wp (tb ar) 61 (mj_en (tb ar) 61 [.int a, .int x] σ) Q ↔ Q (.inl (some (.int v))) σ := by
  have d8 : ¬ (8 : Int32) = 0 := by decide
  by_cases c1 : a - (a - a / 8 * 8) + x ≤ a
  · refine ⟨a - (a - a / 8 * 8) + x + 8, fun Q => ?_⟩
    rw [ent_61]
    simp only [r61_0, r61_1, r61_2, r61_4, r61_5, r61_6, r61_7, r61_8, r61_9, r61_10, r61_11, r61_20, r61_23, r61_24, wo_nx, wo_ret, wo_ite, wo_call, bk_inl, mj_lda, mj_ldi, mj_sti, mj_sta, mj_b2, mj_br1, mj_br2, mj_brn, mj_ir, mj_rr, mj_nx, mj_gf, mj_fld, mj_k2, mj_rc, mj_cls, mj_dup, mj_inc, List.getElem?_cons_zero, List.getElem?_cons_succ, List.length_cons, List.length_nil, List.set_cons_succ, List.set_cons_zero, Nat.reduceAdd, Nat.reduceLT, if_true, if_false, mj_iif, decide_eq_true_eq, List.take_succ_cons, List.take_zero, List.reverse_cons, List.reverse_nil, List.nil_append, List.cons_append, List.drop_succ_cons, List.drop_zero, List.map_cons, List.map_nil, cat_i, cat_r, cat_n, Nat.reduceLeDiff, true_and, and_true, decide_true, Option.toList_some, Option.toList_none, and_self, Nat.le_refl, mj_vr, mj_zr, mj_th, wo_thr, mxl_0, mxl_1, mxl_2, mxl_3, mxl_4, mxl_5, mxl_6, mxl_7, mxl_8, mxl_9, mxl_10, mxl_11, mxl_12, mxl_13, mxl_14, mxl_15, mxl_16, mxl_17, mxl_18, mxl_19, mxl_20, mxl_21, mxl_22, mxl_23, mxl_24, mxl_25, mxl_26, mxl_27, mxl_28, mxl_29, mxl_30, mxl_31, mxl_32, mxl_33, mxl_34, mxl_35, mxl_36, mxl_37, mxl_38, mxl_39, mxl_40, mxl_41, mxl_42, mxl_43, mxl_44, mxl_45, mxl_46, mxl_47, mxl_48, mxl_49, mxl_50, mxl_51, mxl_52, mxl_53, mxl_54, mxl_55, mxl_56, mxl_57, mxl_58, mxl_59, mxl_60, mxl_61, mxl_62, mxl_63, mxl_64, mxl_65, mxl_66, mxl_67, mxl_68, mxl_69, mxl_70, mxl_71, mxl_72, mxl_73, mxl_74, mxl_75, mxl_76, mxl_77, mxl_78, mxl_79, mxl_80, mxl_81, mxl_82, mxl_83, mxl_84, mxl_85, mxl_86, mxl_136, mxl_137, d8, c1]
  · by_cases c2 : 8 ≤ a - (a - a / 8 * 8) + x
    · refine ⟨a - (a - a / 8 * 8) + x, fun Q => ?_⟩
      rw [ent_61]
      simp only [r61_0, r61_1, r61_2, r61_4, r61_5, r61_6, r61_7, r61_8, r61_9, r61_10, r61_11, r61_14, r61_15, r61_17, r61_23, r61_24, wo_nx, wo_ret, wo_ite, wo_call, bk_inl, mj_lda, mj_ldi, mj_sti, mj_sta, mj_b2, mj_br1, mj_br2, mj_brn, mj_ir, mj_rr, mj_nx, mj_gf, mj_fld, mj_k2, mj_rc, mj_cls, mj_dup, mj_inc, List.getElem?_cons_zero, List.getElem?_cons_succ, List.length_cons, List.length_nil, List.set_cons_succ, List.set_cons_zero, Nat.reduceAdd, Nat.reduceLT, if_true, if_false, mj_iif, decide_eq_true_eq, List.take_succ_cons, List.take_zero, List.reverse_cons, List.reverse_nil, List.nil_append, List.cons_append, List.drop_succ_cons, List.drop_zero, List.map_cons, List.map_nil, cat_i, cat_r, cat_n, Nat.reduceLeDiff, true_and, and_true, decide_true, Option.toList_some, Option.toList_none, and_self, Nat.le_refl, mj_vr, mj_zr, mj_th, wo_thr, mxl_0, mxl_1, mxl_2, mxl_3, mxl_4, mxl_5, mxl_6, mxl_7, mxl_8, mxl_9, mxl_10, mxl_11, mxl_12, mxl_13, mxl_14, mxl_15, mxl_16, mxl_17, mxl_18, mxl_19, mxl_20, mxl_21, mxl_22, mxl_23, mxl_24, mxl_25, mxl_26, mxl_27, mxl_28, mxl_29, mxl_30, mxl_31, mxl_32, mxl_33, mxl_34, mxl_35, mxl_36, mxl_37, mxl_38, mxl_39, mxl_40, mxl_41, mxl_42, mxl_43, mxl_44, mxl_45, mxl_46, mxl_47, mxl_48, mxl_49, mxl_50, mxl_51, mxl_52, mxl_53, mxl_54, mxl_55, mxl_56, mxl_57, mxl_58, mxl_59, mxl_60, mxl_61, mxl_62, mxl_63, mxl_64, mxl_65, mxl_66, mxl_67, mxl_68, mxl_69, mxl_70, mxl_71, mxl_72, mxl_73, mxl_74, mxl_75, mxl_76, mxl_77, mxl_78, mxl_79, mxl_80, mxl_81, mxl_82, mxl_83, mxl_84, mxl_85, mxl_86, mxl_136, mxl_137, d8, c1, c2]
    · refine ⟨a - (a - a / 8 * 8) + x + 8, fun Q => ?_⟩
      rw [ent_61]
      simp only [r61_0, r61_1, r61_2, r61_4, r61_5, r61_6, r61_7, r61_8, r61_9, r61_10, r61_11, r61_14, r61_15, r61_17, r61_20, r61_23, r61_24, wo_nx, wo_ret, wo_ite, wo_call, bk_inl, mj_lda, mj_ldi, mj_sti, mj_sta, mj_b2, mj_br1, mj_br2, mj_brn, mj_ir, mj_rr, mj_nx, mj_gf, mj_fld, mj_k2, mj_rc, mj_cls, mj_dup, mj_inc, List.getElem?_cons_zero, List.getElem?_cons_succ, List.length_cons, List.length_nil, List.set_cons_succ, List.set_cons_zero, Nat.reduceAdd, Nat.reduceLT, if_true, if_false, mj_iif, decide_eq_true_eq, List.take_succ_cons, List.take_zero, List.reverse_cons, List.reverse_nil, List.nil_append, List.cons_append, List.drop_succ_cons, List.drop_zero, List.map_cons, List.map_nil, cat_i, cat_r, cat_n, Nat.reduceLeDiff, true_and, and_true, decide_true, Option.toList_some, Option.toList_none, and_self, Nat.le_refl, mj_vr, mj_zr, mj_th, wo_thr, mxl_0, mxl_1, mxl_2, mxl_3, mxl_4, mxl_5, mxl_6, mxl_7, mxl_8, mxl_9, mxl_10, mxl_11, mxl_12, mxl_13, mxl_14, mxl_15, mxl_16, mxl_17, mxl_18, mxl_19, mxl_20, mxl_21, mxl_22, mxl_23, mxl_24, mxl_25, mxl_26, mxl_27, mxl_28, mxl_29, mxl_30, mxl_31, mxl_32, mxl_33, mxl_34, mxl_35, mxl_36, mxl_37, mxl_38, mxl_39, mxl_40, mxl_41, mxl_42, mxl_43, mxl_44, mxl_45, mxl_46, mxl_47, mxl_48, mxl_49, mxl_50, mxl_51, mxl_52, mxl_53, mxl_54, mxl_55, mxl_56, mxl_57, mxl_58, mxl_59, mxl_60, mxl_61, mxl_62, mxl_63, mxl_64, mxl_65, mxl_66, mxl_67, mxl_68, mxl_69, mxl_70, mxl_71, mxl_72, mxl_73, mxl_74, mxl_75, mxl_76, mxl_77, mxl_78, mxl_79, mxl_80, mxl_81, mxl_82, mxl_83, mxl_84, mxl_85, mxl_86, mxl_136, mxl_137, d8, c1, c2]
/-- a Lead's end keeps all that is asked -/
theorem end_q : ct_q s (cs_end s i) := by
  unfold cs_end
  split
  · exact q_rf
  · exact q_tr (q_tr (q_tr (q_tr (q_u (by omega) (by omega)) (q_u (by omega) (by omega))) (q_u (by omega) (by omega))) (q_u (by omega) (by omega))) (q_u (by omega) (by omega))
theorem end_R (h : ct_R s) : ct_R (cs_end s i) := by
  unfold cs_end
  split
  · exact h
  · refine R_cu (R_cu (R_cu (R_cu (R_cu h trivial) trivial) trivial) ?_) trivial
    intro j
    unfold w_fl
    split
    · exact ⟨0, by decide, rfl⟩
    · exact h 26 i j
/-- a Lead ends -/
theorem C_endI (I : ct_I ar A s σ W O U hd) (hi : i < s.1) (hQ : ∀ s' τ, ct_I ar A s' τ W O U hd → ct_D A s σ A s' τ L → ct_q s s' → cs_v s' 20 i 6 = 0 → (∀ k i, k < 20 → cs_v s' k i = cs_v s k i) → Q (.inl none) τ) : mj_wp (tb ar) 2 (mj_en (tb ar) 2 [.ref (A (20, i))] σ) Q := by
  refine C_end I.1 hi (fun τ hn hτ => hQ _ τ (I_q I end_q (end_R I.2.2.2) hτ) (D_q end_q hn) end_q ?_ (fun k i' hk => ?_))
  · unfold cs_end
    split
    · assumption
    · rw [cs_u_eq]
  unfold cs_end
  split
  · rfl
  · rw [cs_u_ne (by omega), cs_u_ne (by omega), cs_u_ne (by omega), cs_u_ne (by omega), cs_u_ne (by omega)]
theorem adv_le {f g : Nat → Int32} : ∀ (j kn : Nat) (mb : Nat → Int32), (l_adv f g j kn mb).1 ≤ kn + j
  | 0, kn, mb => Nat.le_refl _
  | j + 1, kn, mb => by
    unfold l_adv
    split
    · show kn ≤ kn + (j + 1)
      omega
    · have := adv_le (f := f) (g := g) j (kn + 1) (upd mb (kn + 4) (mb (kn + 3) &&& (go_bit (g kn) ^^^ (-1))))
      omega
/-- a command goes into a LOG, if the slot has none -/
theorem C_lputI {t : Nat} {y : Int32} (I : ct_I ar A s σ W O U hd) (hi : i < s.1) (ht : t < 100) (hQ : ∀ s' τ, ct_I ar A s' τ W O U hd → cs_n σ τ → ct_q s s' → (∀ k j, 17 < k → cs_v s' k j = cs_v s k j) → Q (.inl none) τ) : mj_wp (tb ar) 14 (mj_en (tb ar) 14 [.ref (A (14, i)), .int (nI t), .int y] σ) Q := by
  obtain ⟨K, en, k1, k2, e1, e2⟩ := I.2.2.2 14 i
  by_cases hf : cs_v s 15 i t = 0
  · refine C_lput I.1 hi k1 k2 ht hf (fun τ hn hτ => ?_)
    have hq : ct_q s (cs_log s i t y K (cs_adv s i t y K).2 (cs_lw s i t y (cs_adv s i t y K).1)) := q_tr (q_tr (q_tr (q_u (by omega) (by omega)) (q_u (by omega) (by omega))) (q_u (by omega) (by omega))) (q_u (by omega) (by omega))
    have hR : ct_R (cs_log s i t y K (cs_adv s i t y K).2 (cs_lw s i t y (cs_adv s i t y K).1)) := by
      refine R_cu (R_cu (R_cu (R_cu I.2.2.2 trivial) trivial) trivial) ?_
      have ha := adv_le (f := upd (cs_v s 15 i) t 1) (g := upd (cs_v s 16 i) t y) (100 - K) K (cs_v s 17 i)
      show ∃ K' en' : Nat, nI (cs_adv s i t y K).1 = nI K' ∧ K' ≤ 100 ∧ (if cs_v s 14 i 5 < nI (t + 1) then nI (t + 1) else cs_v s 14 i 5) = nI en' ∧ en' ≤ 100
      by_cases hc : cs_v s 14 i 5 < nI (t + 1)
      · exact ⟨_, t + 1, rfl, by unfold cs_adv; omega, by rw [if_pos hc], by omega⟩
      · exact ⟨_, en, rfl, by unfold cs_adv; omega, by rw [if_neg hc]; exact e1, e2⟩
    refine hQ _ τ (I_q I hq hR hτ) hn hq (fun k j hk => ?_)
    unfold cs_log
    rw [cs_u_ne (by omega), cs_u_ne (by omega), cs_u_ne (by omega), cs_u_ne (by omega)]
  · exact (l_put1 (cs_g (k := 14) I.1 (if_pos hi)) (cs_g (k := 15) I.1 (if_pos hi)) ht hf).mpr (hQ s σ I ⟨rfl, rfl⟩ q_rf (fun _ _ _ => rfl))
/-- i's ROLE is gone, or it had one and the slots PROPOSED are as before -/
def ct_rl (s s' : cs_S) (i : Nat) : Prop := cs_v s' 20 i 6 = 0 ∨ (cs_v s' 22 i = cs_v s 22 i ∧ ¬ cs_v s 20 i 6 = 0)
theorem crl_of (h20 : cs_v s' 20 i 6 = cs_v s 20 i 6) (h22 : cs_v s' 22 i = cs_v s 22 i) : ct_rl s s' i := by
  by_cases h : cs_v s 20 i 6 = 0
  · exact Or.inl (by rw [h20]; exact h)
  · exact Or.inr ⟨h22, h⟩
theorem crl_rf : ct_rl s s i := crl_of rfl rfl
theorem crl_tr {s2 : cs_S} (h : ct_rl s s1 i) (h' : ct_rl s1 s2 i) : ct_rl s s2 i := by
  rcases h' with h' | ⟨a, b⟩
  · exact Or.inl h'
  · rcases h with h | ⟨c, d⟩
    · exact absurd h b
    · exact Or.inr ⟨a.trans c, d⟩
/-- learn(node, main, slot, command) -/
theorem C_learn {t : Nat} {y v : Int32} (I : ct_I ar A s σ W O U hd) (hi : i < s.1) (ht : t < 100) (hQ : ∀ s' τ, ct_I ar A s' τ W O U hd → cs_n σ τ → ct_q s s' → ct_rl s s' i → Q (.inl none) τ) : mj_wp (tb ar) 72 (mj_en (tb ar) 72 [.ref (A (0, 0)), .int v, .ref (A (13, i)), .int (nI t), .int y] σ) Q := by
  rw [ent_72]
  have g13 := cs_g (k := 13) (i := i) I.1 (if_pos hi)
  have g14 := cs_g (k := 14) (i := i) I.1 (if_pos hi)
  simp only [r72_0, r72_1, r72_4, r72_5, r72_7, wo_nx, wo_ret, wo_ite, wo_call, bk_inl, mj_lda, mj_ldi, mj_sti, mj_sta, mj_b2, mj_br1, mj_br2, mj_brn, mj_ir, mj_rr, mj_nx, mj_gf, mj_fld, mj_k2, mj_rc, mj_cls, mj_dup, mj_inc, List.getElem?_cons_zero, List.getElem?_cons_succ, List.length_cons, List.length_nil, List.set_cons_succ, List.set_cons_zero, Nat.reduceAdd, Nat.reduceLT, if_true, if_false, mj_iif, decide_eq_true_eq, List.take_succ_cons, List.take_zero, List.reverse_cons, List.reverse_nil, List.nil_append, List.cons_append, List.drop_succ_cons, List.drop_zero, List.map_cons, List.map_nil, cat_i, cat_r, cat_n, Nat.reduceLeDiff, true_and, and_true, decide_true, Option.toList_some, Option.toList_none, and_self, Nat.le_refl, mj_vr, mj_zr, mj_th, wo_thr, mxl_0, mxl_1, mxl_2, mxl_3, mxl_4, mxl_5, mxl_6, mxl_7, mxl_8, mxl_9, mxl_10, mxl_11, mxl_12, mxl_13, mxl_14, mxl_15, mxl_16, mxl_17, mxl_18, mxl_19, mxl_20, mxl_21, mxl_22, mxl_23, mxl_24, mxl_25, mxl_26, mxl_27, mxl_28, mxl_29, mxl_30, mxl_31, mxl_32, mxl_33, mxl_34, mxl_35, mxl_36, mxl_37, mxl_38, mxl_39, mxl_40, mxl_41, mxl_42, mxl_43, mxl_44, mxl_45, mxl_46, mxl_47, mxl_48, mxl_49, mxl_50, mxl_51, mxl_52, mxl_53, mxl_54, mxl_55, mxl_56, mxl_57, mxl_58, mxl_59, mxl_60, mxl_61, mxl_62, mxl_63, mxl_64, mxl_65, mxl_66, mxl_67, mxl_68, mxl_69, mxl_70, mxl_71, mxl_72, mxl_73, mxl_74, mxl_75, mxl_76, mxl_77, mxl_78, mxl_79, mxl_80, mxl_81, mxl_82, mxl_83, mxl_84, mxl_85, mxl_86, mxl_136, mxl_137, g13, g14]
  refine C_lputI I hi ht (fun s1 τ1 I1 hn1 q1 v1 => ?_)
  have rl1 : ct_rl s s1 i := crl_of (by rw [v1 20 i (by decide)]) (v1 22 i (by decide))
  have hi1 : i < s1.1 := by rw [q1.1]; exact hi
  have G13 := cs_g (k := 13) (i := i) I1.1 (if_pos hi1)
  have G14 := cs_g (k := 14) (i := i) I1.1 (if_pos hi1)
  have G20 := cs_g (k := 20) (i := i) I1.1 (if_pos hi1)
  obtain ⟨K, en, k1, k2, -, -⟩ := I1.2.2.2 14 i
  by_cases hm : (cs_v s1 17 i K >>> (v &&& 31)) &&& 1 = 0
  · simp only [r72_10, r72_11, r72_14, r72_15, wo_nx, wo_ret, wo_ite, wo_call, bk_inl, mj_lda, mj_ldi, mj_sti, mj_sta, mj_b2, mj_br1, mj_br2, mj_brn, mj_ir, mj_rr, mj_nx, mj_gf, mj_fld, mj_k2, mj_rc, mj_cls, mj_dup, mj_inc, List.getElem?_cons_zero, List.getElem?_cons_succ, List.length_cons, List.length_nil, List.set_cons_succ, List.set_cons_zero, Nat.reduceAdd, Nat.reduceLT, if_true, if_false, mj_iif, decide_eq_true_eq, List.take_succ_cons, List.take_zero, List.reverse_cons, List.reverse_nil, List.nil_append, List.cons_append, List.drop_succ_cons, List.drop_zero, List.map_cons, List.map_nil, cat_i, cat_r, cat_n, Nat.reduceLeDiff, true_and, and_true, decide_true, Option.toList_some, Option.toList_none, and_self, Nat.le_refl, mj_vr, mj_zr, mj_th, wo_thr, mxl_0, mxl_1, mxl_2, mxl_3, mxl_4, mxl_5, mxl_6, mxl_7, mxl_8, mxl_9, mxl_10, mxl_11, mxl_12, mxl_13, mxl_14, mxl_15, mxl_16, mxl_17, mxl_18, mxl_19, mxl_20, mxl_21, mxl_22, mxl_23, mxl_24, mxl_25, mxl_26, mxl_27, mxl_28, mxl_29, mxl_30, mxl_31, mxl_32, mxl_33, mxl_34, mxl_35, mxl_36, mxl_37, mxl_38, mxl_39, mxl_40, mxl_41, mxl_42, mxl_43, mxl_44, mxl_45, mxl_46, mxl_47, mxl_48, mxl_49, mxl_50, mxl_51, mxl_52, mxl_53, mxl_54, mxl_55, mxl_56, mxl_57, mxl_58, mxl_59, mxl_60, mxl_61, mxl_62, mxl_63, mxl_64, mxl_65, mxl_66, mxl_67, mxl_68, mxl_69, mxl_70, mxl_71, mxl_72, mxl_73, mxl_74, mxl_75, mxl_76, mxl_77, mxl_78, mxl_79, mxl_80, mxl_81, mxl_82, mxl_83, mxl_84, mxl_85, mxl_86, mxl_136, mxl_137, G13, G14, C_ism I1.1 hi1 k1 (show K < 104 by omega), hm]
    simp only [r72_18, r72_21, r72_22, r72_25, wo_nx, wo_ret, wo_ite, wo_call, bk_inl, mj_lda, mj_ldi, mj_sti, mj_sta, mj_b2, mj_br1, mj_br2, mj_brn, mj_ir, mj_rr, mj_nx, mj_gf, mj_fld, mj_k2, mj_rc, mj_cls, mj_dup, mj_inc, List.getElem?_cons_zero, List.getElem?_cons_succ, List.length_cons, List.length_nil, List.set_cons_succ, List.set_cons_zero, Nat.reduceAdd, Nat.reduceLT, if_true, if_false, mj_iif, decide_eq_true_eq, List.take_succ_cons, List.take_zero, List.reverse_cons, List.reverse_nil, List.nil_append, List.cons_append, List.drop_succ_cons, List.drop_zero, List.map_cons, List.map_nil, cat_i, cat_r, cat_n, Nat.reduceLeDiff, true_and, and_true, decide_true, Option.toList_some, Option.toList_none, and_self, Nat.le_refl, mj_vr, mj_zr, mj_th, wo_thr, mxl_0, mxl_1, mxl_2, mxl_3, mxl_4, mxl_5, mxl_6, mxl_7, mxl_8, mxl_9, mxl_10, mxl_11, mxl_12, mxl_13, mxl_14, mxl_15, mxl_16, mxl_17, mxl_18, mxl_19, mxl_20, mxl_21, mxl_22, mxl_23, mxl_24, mxl_25, mxl_26, mxl_27, mxl_28, mxl_29, mxl_30, mxl_31, mxl_32, mxl_33, mxl_34, mxl_35, mxl_36, mxl_37, mxl_38, mxl_39, mxl_40, mxl_41, mxl_42, mxl_43, mxl_44, mxl_45, mxl_46, mxl_47, mxl_48, mxl_49, mxl_50, mxl_51, mxl_52, mxl_53, mxl_54, mxl_55, mxl_56, mxl_57, mxl_58, mxl_59, mxl_60, mxl_61, mxl_62, mxl_63, mxl_64, mxl_65, mxl_66, mxl_67, mxl_68, mxl_69, mxl_70, mxl_71, mxl_72, mxl_73, mxl_74, mxl_75, mxl_76, mxl_77, mxl_78, mxl_79, mxl_80, mxl_81, mxl_82, mxl_83, mxl_84, mxl_85, mxl_86, mxl_136, mxl_137, G13, G20, ne_eq, not_true_eq_false]
    refine C_endI (L := []) I1 hi1 (fun s2 τ2 I2 D2 q2 z2 _ => ?_)
    simp only [r72_28, wo_nx, wo_ret, wo_ite, wo_call, bk_inl, mj_lda, mj_ldi, mj_sti, mj_sta, mj_b2, mj_br1, mj_br2, mj_brn, mj_ir, mj_rr, mj_nx, mj_gf, mj_fld, mj_k2, mj_rc, mj_cls, mj_dup, mj_inc, List.getElem?_cons_zero, List.getElem?_cons_succ, List.length_cons, List.length_nil, List.set_cons_succ, List.set_cons_zero, Nat.reduceAdd, Nat.reduceLT, if_true, if_false, mj_iif, decide_eq_true_eq, List.take_succ_cons, List.take_zero, List.reverse_cons, List.reverse_nil, List.nil_append, List.cons_append, List.drop_succ_cons, List.drop_zero, List.map_cons, List.map_nil, cat_i, cat_r, cat_n, Nat.reduceLeDiff, true_and, and_true, decide_true, Option.toList_some, Option.toList_none, and_self, Nat.le_refl, mj_vr, mj_zr, mj_th, wo_thr, mxl_0, mxl_1, mxl_2, mxl_3, mxl_4, mxl_5, mxl_6, mxl_7, mxl_8, mxl_9, mxl_10, mxl_11, mxl_12, mxl_13, mxl_14, mxl_15, mxl_16, mxl_17, mxl_18, mxl_19, mxl_20, mxl_21, mxl_22, mxl_23, mxl_24, mxl_25, mxl_26, mxl_27, mxl_28, mxl_29, mxl_30, mxl_31, mxl_32, mxl_33, mxl_34, mxl_35, mxl_36, mxl_37, mxl_38, mxl_39, mxl_40, mxl_41, mxl_42, mxl_43, mxl_44, mxl_45, mxl_46, mxl_47, mxl_48, mxl_49, mxl_50, mxl_51, mxl_52, mxl_53, mxl_54, mxl_55, mxl_56, mxl_57, mxl_58, mxl_59, mxl_60, mxl_61, mxl_62, mxl_63, mxl_64, mxl_65, mxl_66, mxl_67, mxl_68, mxl_69, mxl_70, mxl_71, mxl_72, mxl_73, mxl_74, mxl_75, mxl_76, mxl_77, mxl_78, mxl_79, mxl_80, mxl_81, mxl_82, mxl_83, mxl_84, mxl_85, mxl_86, mxl_136, mxl_137]
    have a2 := D2.1.2.2.2.2
    have c1 : ct_1 s2 = ct_1 s1 := by
      unfold ct_1
      rw [q2.2.1, q2.2.2.1]
    have c2 : ct_2 s2 = ct_2 s1 := by
      unfold ct_2
      rw [q2.2.1, q2.2.2.1]
    exact hQ s2 τ2 I2 ⟨by have := hn1.1; omega, by have := hn1.2; omega⟩ (q_tr q1 q2) (Or.inl z2)
  · simp only [r72_10, r72_11, r72_14, r72_15, wo_nx, wo_ret, wo_ite, wo_call, bk_inl, mj_lda, mj_ldi, mj_sti, mj_sta, mj_b2, mj_br1, mj_br2, mj_brn, mj_ir, mj_rr, mj_nx, mj_gf, mj_fld, mj_k2, mj_rc, mj_cls, mj_dup, mj_inc, List.getElem?_cons_zero, List.getElem?_cons_succ, List.length_cons, List.length_nil, List.set_cons_succ, List.set_cons_zero, Nat.reduceAdd, Nat.reduceLT, if_true, if_false, mj_iif, decide_eq_true_eq, List.take_succ_cons, List.take_zero, List.reverse_cons, List.reverse_nil, List.nil_append, List.cons_append, List.drop_succ_cons, List.drop_zero, List.map_cons, List.map_nil, cat_i, cat_r, cat_n, Nat.reduceLeDiff, true_and, and_true, decide_true, Option.toList_some, Option.toList_none, and_self, Nat.le_refl, mj_vr, mj_zr, mj_th, wo_thr, mxl_0, mxl_1, mxl_2, mxl_3, mxl_4, mxl_5, mxl_6, mxl_7, mxl_8, mxl_9, mxl_10, mxl_11, mxl_12, mxl_13, mxl_14, mxl_15, mxl_16, mxl_17, mxl_18, mxl_19, mxl_20, mxl_21, mxl_22, mxl_23, mxl_24, mxl_25, mxl_26, mxl_27, mxl_28, mxl_29, mxl_30, mxl_31, mxl_32, mxl_33, mxl_34, mxl_35, mxl_36, mxl_37, mxl_38, mxl_39, mxl_40, mxl_41, mxl_42, mxl_43, mxl_44, mxl_45, mxl_46, mxl_47, mxl_48, mxl_49, mxl_50, mxl_51, mxl_52, mxl_53, mxl_54, mxl_55, mxl_56, mxl_57, mxl_58, mxl_59, mxl_60, mxl_61, mxl_62, mxl_63, mxl_64, mxl_65, mxl_66, mxl_67, mxl_68, mxl_69, mxl_70, mxl_71, mxl_72, mxl_73, mxl_74, mxl_75, mxl_76, mxl_77, mxl_78, mxl_79, mxl_80, mxl_81, mxl_82, mxl_83, mxl_84, mxl_85, mxl_86, mxl_136, mxl_137, G13, G14, C_ism I1.1 hi1 k1 (show K < 104 by omega), hm]
    simp only [r72_18, r72_28, wo_nx, wo_ret, wo_ite, wo_call, bk_inl, mj_lda, mj_ldi, mj_sti, mj_sta, mj_b2, mj_br1, mj_br2, mj_brn, mj_ir, mj_rr, mj_nx, mj_gf, mj_fld, mj_k2, mj_rc, mj_cls, mj_dup, mj_inc, List.getElem?_cons_zero, List.getElem?_cons_succ, List.length_cons, List.length_nil, List.set_cons_succ, List.set_cons_zero, Nat.reduceAdd, Nat.reduceLT, if_true, if_false, mj_iif, decide_eq_true_eq, List.take_succ_cons, List.take_zero, List.reverse_cons, List.reverse_nil, List.nil_append, List.cons_append, List.drop_succ_cons, List.drop_zero, List.map_cons, List.map_nil, cat_i, cat_r, cat_n, Nat.reduceLeDiff, true_and, and_true, decide_true, Option.toList_some, Option.toList_none, and_self, Nat.le_refl, mj_vr, mj_zr, mj_th, wo_thr, mxl_0, mxl_1, mxl_2, mxl_3, mxl_4, mxl_5, mxl_6, mxl_7, mxl_8, mxl_9, mxl_10, mxl_11, mxl_12, mxl_13, mxl_14, mxl_15, mxl_16, mxl_17, mxl_18, mxl_19, mxl_20, mxl_21, mxl_22, mxl_23, mxl_24, mxl_25, mxl_26, mxl_27, mxl_28, mxl_29, mxl_30, mxl_31, mxl_32, mxl_33, mxl_34, mxl_35, mxl_36, mxl_37, mxl_38, mxl_39, mxl_40, mxl_41, mxl_42, mxl_43, mxl_44, mxl_45, mxl_46, mxl_47, mxl_48, mxl_49, mxl_50, mxl_51, mxl_52, mxl_53, mxl_54, mxl_55, mxl_56, mxl_57, mxl_58, mxl_59, mxl_60, mxl_61, mxl_62, mxl_63, mxl_64, mxl_65, mxl_66, mxl_67, mxl_68, mxl_69, mxl_70, mxl_71, mxl_72, mxl_73, mxl_74, mxl_75, mxl_76, mxl_77, mxl_78, mxl_79, mxl_80, mxl_81, mxl_82, mxl_83, mxl_84, mxl_85, mxl_86, mxl_136, mxl_137, k_10, ne_eq, not_false_eq_true]
    exact hQ s1 τ1 I1 hn1 q1 rl1
/-- what x has sent to itself, of a kind, behind y nodes -/
def ct_o (s : cs_S) (x y : Nat) (c : Int32) (O2 : List Nat) : Prop := O2 = [] ∨ (x < y ∧ ∃ p, O2 = [p] ∧ cs_v s 30 p 2 = c ∧ cs_v s 30 p 1 = nI x)
theorem o_next {y y' : Nat} {c : Int32} {O2 : List Nat} (h : ct_o s x y c O2) (hy : y ≤ y') : ct_o s x y' c O2 := by
  rcases h with h | ⟨h1, h2⟩
  · exact Or.inl h
  · exact Or.inr ⟨by omega, h2⟩
theorem sub3 {X O2 : List Nat} : ∀ p, p ∈ W ++ O ++ hd → p ∈ W ++ X ++ (O ++ O2) ++ hd := by
  intro p hp
  simp only [List.mem_append] at hp ⊢
  rcases hp with (hp | hp) | hp
  · exact Or.inl (Or.inl (Or.inl hp))
  · exact Or.inl (Or.inr (Or.inl hp))
  · exact Or.inr hp
/-- one of a row of messages from x to the nodes of a set -/
theorem C_one {y t : Nat} {c d f : Int32} {X O2 : List Nat} (I : ct_I ar A s σ (W ++ X) (O ++ O2) U hd) (D : ct_D A0 s0 σ0 A s σ (W ++ O ++ hd)) (S : ct_S s0 s) (ho : ct_o s x y c O2) (hx : x < 2 * s.1 - 1) (hy : y < 2 * s.1 - 1) (ht : t ≤ 100) (ht9 : c = 3 ∨ c = 4 ∨ c = 5 → t < 100) (hl : O.length + hd.length ≤ 299) (hQ : ∀ A' s' τ X' O2' U' o, ct_I ar A' s' τ (W ++ X') (O ++ O2') U' hd → ct_D A0 s0 σ0 A' s' τ (W ++ O ++ hd) → ct_S s0 s' → ct_o s' x (y + 1) c O2' → ct_F A s σ A' s' τ → Q (.inl (some (cs_o A' o))) τ) : mj_wp (tb ar) 17 (mj_en (tb ar) 17 [.ref (A (3, 0)), .int (nI x), .int (nI y), .int c, .int d, .int (nI t), .int f] σ) Q := by
  have hO2 : O2.length ≤ 1 := by
    rcases ho with rfl | ⟨-, p, rfl, -⟩
    · exact Nat.zero_le _
    · exact Nat.le_refl _
  refine C_snd I hx hy ht ht9 (by rw [List.length_append]; omega) (fun A' s' τ X' O2' U' o I' D' S' h1 h2 => ?_)
  have kept : ∀ p, p ∈ O2 → cs_v s' 30 p = cs_v s 30 p := fun p hp => D'.2.2 p (by simp only [List.mem_append]; exact Or.inl (Or.inr (Or.inr hp)))
  have ho' : ct_o s' x (y + 1) c (O2 ++ O2') := by
    rcases h1 with rfl | ⟨rfl, p, rfl, hp⟩
    · rw [List.append_nil]
      rcases ho with rfl | ⟨a1, p, rfl, a2, a3⟩
      · exact Or.inl rfl
      · refine Or.inr ⟨by omega, p, rfl, ?_, ?_⟩
        · rw [kept p List.mem_cons_self]
          exact a2
        · rw [kept p List.mem_cons_self]
          exact a3
    · rcases ho with rfl | ⟨a1, -⟩
      · exact Or.inr ⟨by omega, p, rfl, by rw [hp]; rfl, by rw [hp]; rfl⟩
      · omega
  refine hQ A' s' τ (X ++ X') (O2 ++ O2') U' o ?_ (D_tr D D' sub3) (S_tr S S') ho' D'.1
  rw [← List.append_assoc, ← List.append_assoc]
  exact I'
end DD
