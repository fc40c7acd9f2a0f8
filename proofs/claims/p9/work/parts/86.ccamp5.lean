section CY
variable {ar : Nat → ClassId} {A : tg_T → Nat} {s s' : cs_S} {σ : mj_S} {m x : Nat} {b : Int32} {Q : (Option Value ⊕ String) → mj_S → Prop}
theorem c0_M : cs_M (cs_0 m) 0 := by
  refine ⟨fun k j y h => ?_, 0, 0, 0, 0, 0, ?_, ?_, rfl, fun j hj => by omega, rfl, ?_⟩
  · have h' : (none : Option Nat) = some y := h
    cases h'
  · exact ⟨rfl, by omega, rfl, by omega, fun i hi => by omega⟩
  · exact ⟨rfl, by omega, rfl, by omega, fun i hi => by omega⟩
  · show 0 ≤ 601
    omega
theorem K_campaign1 {v : Int32} (h : tg_R A (cs_h ar A s) σ) (hx : v < 0 ∨ ¬ v < cs_v s 0 0 0) : mj_wp (tb ar) 43 (mj_en (tb ar) 43 [.ref (A (0, 0)), .int v] σ) Q ↔ Q (.inr x_ix) σ := by
  rw [ent_43]
  have g0 := cs_g (k := 0) (i := 0) h rfl
  simp only [r43_0, r43_1, r43_2, wo_nx, wo_ret, wo_ite, wo_call, bk_inl, mj_lda, mj_ldi, mj_sti, mj_sta, mj_b2, mj_br1, mj_br2, mj_brn, mj_ir, mj_rr, mj_nx, mj_gf, mj_fld, mj_k2, mj_rc, mj_cls, mj_dup, mj_inc, List.getElem?_cons_zero, List.getElem?_cons_succ, List.length_cons, List.length_nil, List.set_cons_succ, List.set_cons_zero, Nat.reduceAdd, Nat.reduceLT, if_true, if_false, mj_iif, decide_eq_true_eq, List.take_succ_cons, List.take_zero, List.reverse_cons, List.reverse_nil, List.nil_append, List.cons_append, List.drop_succ_cons, List.drop_zero, List.map_cons, List.map_nil, cat_i, cat_r, cat_n, Nat.reduceLeDiff, true_and, and_true, decide_true, Option.toList_some, Option.toList_none, and_self, Nat.le_refl, mj_vr, mj_zr, mj_th, wo_thr, mxl_0, mxl_1, mxl_2, mxl_3, mxl_4, mxl_5, mxl_6, mxl_7, mxl_8, mxl_9, mxl_10, mxl_11, mxl_12, mxl_13, mxl_14, mxl_15, mxl_16, mxl_17, mxl_18, mxl_19, mxl_20, mxl_21, mxl_22, mxl_23, mxl_24, mxl_25, mxl_26, mxl_27, mxl_28, mxl_29, mxl_30, mxl_31, mxl_32, mxl_33, mxl_34, mxl_35, mxl_36, mxl_37, mxl_38, mxl_39, mxl_40, mxl_41, mxl_42, mxl_43, mxl_44, mxl_45, mxl_46, mxl_47, mxl_48, mxl_49, mxl_50, mxl_51, mxl_52, mxl_53, mxl_54, mxl_55, mxl_56, mxl_57, mxl_58, mxl_59, mxl_60, mxl_61, mxl_62, mxl_63, mxl_64, mxl_65, mxl_66, mxl_67, mxl_68, mxl_69, mxl_70, mxl_71, mxl_72, mxl_73, mxl_74, mxl_75, mxl_76, mxl_77, mxl_78, mxl_79, mxl_80, mxl_81, mxl_82, mxl_83, mxl_84, mxl_85, mxl_86, mxl_136, mxl_137, g0, C_checkMain h, hx, bk_inr, knd_58]
theorem div_c (hx : x < 5) : nI (8 + x) / 8 ≤ 1000 := by
  have h : x = 0 ∨ x = 1 ∨ x = 2 ∨ x = 3 ∨ x = 4 := by omega
  rcases h with rfl | rfl | rfl | rfl | rfl <;> decide
/-- the PREPAREs go, and what was asked is kept -/
theorem C_sp {s1 : cs_S} (hm : m = 2 ∨ m = 3 ∨ m = 4 ∨ m = 5) (hx : x < m) (h : tg_R A (cs_h ar A s1) σ) (hI : cc_I m x b s1 s1 0) (hF : cc_F m x b s1) (hQ : ∀ A' τ s, tg_R A' (cs_h ar A' (cs_u s 20 x (upd (cs_v s 20 x) 11 (cs_v s 20 x 11 ||| (((1 : Int32) <<< (nI m &&& 31)) - 1))))) τ → A' (0, 0) = A (0, 0) → A' (13, x) = A (13, x) → cc_I m x b s1 s m → τ.1 = σ.1 + m → τ.2.1 = σ.2.1 + 7 * m → Q (.inl none) τ) : mj_wp (tb ar) 77 (mj_en (tb ar) 77 [.ref (A (0, 0)), .int (nI x), .int (((1 : Int32) <<< (nI m &&& 31)) - 1)] σ) Q := by
  rw [ent_77]
  obtain ⟨f1, f2, f3, f4, f5, f6, f7, f8, f9, f10, f11, f12⟩ := hF
  have hs1 : s1.1 = m := hI.2.1
  have hi : x < s1.1 := by rw [hs1]; exact hx
  have g0 := cs_g (k := 0) (i := 0) h rfl
  have g2 := cs_g (k := 2) (i := 0) h rfl
  have hix : mj_ix (nI x) s1.1 = true := ix_of hi (by omega)
  have hcl : (nI x).toNatClampNeg = x := nI_clamp (by omega)
  simp only [r77_0, r77_1, r77_4, r77_5, r77_6, r77_7, r77_8, wo_nx, wo_ret, wo_ite, wo_call, bk_inl, mj_lda, mj_ldi, mj_sti, mj_sta, mj_b2, mj_br1, mj_br2, mj_brn, mj_ir, mj_rr, mj_nx, mj_gf, mj_fld, mj_k2, mj_rc, mj_cls, mj_dup, mj_inc, List.getElem?_cons_zero, List.getElem?_cons_succ, List.length_cons, List.length_nil, List.set_cons_succ, List.set_cons_zero, Nat.reduceAdd, Nat.reduceLT, if_true, if_false, mj_iif, decide_eq_true_eq, List.take_succ_cons, List.take_zero, List.reverse_cons, List.reverse_nil, List.nil_append, List.cons_append, List.drop_succ_cons, List.drop_zero, List.map_cons, List.map_nil, cat_i, cat_r, cat_n, Nat.reduceLeDiff, true_and, and_true, decide_true, Option.toList_some, Option.toList_none, and_self, Nat.le_refl, mj_vr, mj_zr, mj_th, wo_thr, mxl_0, mxl_1, mxl_2, mxl_3, mxl_4, mxl_5, mxl_6, mxl_7, mxl_8, mxl_9, mxl_10, mxl_11, mxl_12, mxl_13, mxl_14, mxl_15, mxl_16, mxl_17, mxl_18, mxl_19, mxl_20, mxl_21, mxl_22, mxl_23, mxl_24, mxl_25, mxl_26, mxl_27, mxl_28, mxl_29, mxl_30, mxl_31, mxl_32, mxl_33, mxl_34, mxl_35, mxl_36, mxl_37, mxl_38, mxl_39, mxl_40, mxl_41, mxl_42, mxl_43, mxl_44, mxl_45, mxl_46, mxl_47, mxl_48, mxl_49, mxl_50, mxl_51, mxl_52, mxl_53, mxl_54, mxl_55, mxl_56, mxl_57, mxl_58, mxl_59, mxl_60, mxl_61, mxl_62, mxl_63, mxl_64, mxl_65, mxl_66, mxl_67, mxl_68, mxl_69, mxl_70, mxl_71, mxl_72, mxl_73, mxl_74, mxl_75, mxl_76, mxl_77, mxl_78, mxl_79, mxl_80, mxl_81, mxl_82, mxl_83, mxl_84, mxl_85, mxl_86, mxl_136, mxl_137, g0, g2, cs_rf, mj_aald, kr_5, hix, hcl, cs_1_at hi, va_rf]
  refine cc_loop (ar := ar) (s1 := s1) (b := b) (a0 := A (0, 0)) (a13 := A (13, x)) (z0 := σ.1) (q0 := σ.2.1) hm hx f12 f8 (by rw [f4]; rfl) ?_ (2 * m - 1) 0 (by omega) A σ s1 h rfl rfl (by rw [Nat.zero_min]; exact hI) (by rw [Nat.zero_min]; rfl) (by rw [Nat.zero_min]; rfl)
  intro A' τ s' ht ha0 ha13 hI' u1 u2
  have hi' : x < s'.1 := by rw [hI'.2.1]; exact hx
  have g13 := cs_g (k := 13) (i := x) ht (if_pos hi')
  have g20 := cs_g (k := 20) (i := x) ht (if_pos hi')
  rw [ha13] at g13
  have hs := cs_set (w := upd (cs_v s' 20 x) 11 (cs_v s' 20 x 11 ||| (((1 : Int32) <<< (nI m &&& 31)) - 1))) (e0 := _) ht (if_pos hi') (k := 20) (i := x) (if_pos hi')
  rw [w_set_at, w_set_ne (by decide), w_set_ne (by decide), w_set_ne (by decide), w_set_ne (by decide), w_set_ne (by decide), w_set_ne (by decide)] at hs
  simp only [r77_61, r77_62, r77_65, r77_66, r77_69, r77_70, r77_71, r77_74, wo_nx, wo_ret, wo_ite, wo_call, bk_inl, mj_lda, mj_ldi, mj_sti, mj_sta, mj_b2, mj_br1, mj_br2, mj_brn, mj_ir, mj_rr, mj_nx, mj_gf, mj_fld, mj_k2, mj_rc, mj_cls, mj_dup, mj_inc, List.getElem?_cons_zero, List.getElem?_cons_succ, List.length_cons, List.length_nil, List.set_cons_succ, List.set_cons_zero, Nat.reduceAdd, Nat.reduceLT, if_true, if_false, mj_iif, decide_eq_true_eq, List.take_succ_cons, List.take_zero, List.reverse_cons, List.reverse_nil, List.nil_append, List.cons_append, List.drop_succ_cons, List.drop_zero, List.map_cons, List.map_nil, cat_i, cat_r, cat_n, Nat.reduceLeDiff, true_and, and_true, decide_true, Option.toList_some, Option.toList_none, and_self, Nat.le_refl, mj_vr, mj_zr, mj_th, wo_thr, mxl_0, mxl_1, mxl_2, mxl_3, mxl_4, mxl_5, mxl_6, mxl_7, mxl_8, mxl_9, mxl_10, mxl_11, mxl_12, mxl_13, mxl_14, mxl_15, mxl_16, mxl_17, mxl_18, mxl_19, mxl_20, mxl_21, mxl_22, mxl_23, mxl_24, mxl_25, mxl_26, mxl_27, mxl_28, mxl_29, mxl_30, mxl_31, mxl_32, mxl_33, mxl_34, mxl_35, mxl_36, mxl_37, mxl_38, mxl_39, mxl_40, mxl_41, mxl_42, mxl_43, mxl_44, mxl_45, mxl_46, mxl_47, mxl_48, mxl_49, mxl_50, mxl_51, mxl_52, mxl_53, mxl_54, mxl_55, mxl_56, mxl_57, mxl_58, mxl_59, mxl_60, mxl_61, mxl_62, mxl_63, mxl_64, mxl_65, mxl_66, mxl_67, mxl_68, mxl_69, mxl_70, mxl_71, mxl_72, mxl_73, mxl_74, mxl_75, mxl_76, mxl_77, mxl_78, mxl_79, mxl_80, mxl_81, mxl_82, mxl_83, mxl_84, mxl_85, mxl_86, mxl_136, mxl_137, g13, g20, mj_pf, mj_sf, mj_fit, Option.isSome_some]
  exact hQ A' _ s' hs ha0 ha13 hI' u1 u2
theorem K_campaign0 (hm : m = 2 ∨ m = 3 ∨ m = 4 ∨ m = 5) (hx : x < m) (h : tg_R A (cs_h ar A (cs_0 m)) σ) (hQ : ∀ τ, τ.1 = σ.1 + m + 4 → τ.2.1 = σ.2.1 + 7 * m + 211 → Q (.inl (some (.int (nI (8 + x))))) τ) : mj_wp (tb ar) 43 (mj_en (tb ar) 43 [.ref (A (0, 0)), .int (nI x)] σ) Q := by
  rw [ent_43]
  have hB := c0_B (m := m) (by omega) (by omega)
  have hi : x < (cs_0 m).1 := hx
  have hn : x < 2 * (cs_0 m).1 - 1 := by show x < 2 * m - 1; omega
  have g0 := cs_g (k := 0) (i := 0) h rfl
  have g1 := cs_g (k := 1) (i := 0) h rfl
  have g2 := cs_g (k := 2) (i := 0) h rfl
  have g9 := cs_g (k := 9) (i := x) h (if_pos hn)
  have g13 := cs_g (k := 13) (i := x) h (if_pos hi)
  have g14 := cs_g (k := 14) (i := x) h (if_pos hi)
  have g20 := cs_g (k := 20) (i := x) h (if_pos hi)
  have hix : mj_ix (nI x) (cs_0 m).1 = true := ix_of hi (show m < 2 ^ 31 by omega)
  have hix2 : mj_ix (nI x) (2 * (cs_0 m).1 - 1) = true := ix_of hn (show 2 * m - 1 < 2 ^ 31 by omega)
  have hcl : (nI x).toNatClampNeg = x := nI_clamp (by omega)
  have z92 : cs_v (cs_0 m) 9 x 2 = 0 := rfl
  have z91 : cs_v (cs_0 m) 9 x 1 = 0 := rfl
  have z207 : cs_v (cs_0 m) 20 x 7 = 0 := rfl
  have z143 : cs_v (cs_0 m) 14 x 3 = 0 := rfl
  have c0 : ¬ (0 : Int32) < 0 := by decide
  have c100 : ¬ (100 : Int32) ≤ 0 := by decide
  have k8 : ((8 : Int32) = 0) ↔ False := by decide
  have hdiv := div_c (x := x) (by omega)
  have e17 : cs_v (cs_0 m) 17 x 0 = ((1 : Int32) <<< (nI m &&& 31)) - 1 := rfl
  have hb := bit_M (y := x) hm (by omega)
  rw [if_pos hx] at hb
  have hism : ∀ Q' : (Option Value ⊕ String) → mj_S → Prop, mj_wp (tb ar) 12 (mj_en (tb ar) 12 [.ref (A (14, x)), .int (nI x)] σ) Q' ↔ Q' (.inl (some (.int 1))) σ := fun Q' => by
    rw [C_ism (kn := 0) h hi rfl (by omega), e17, hb, if_neg (by decide)]
  simp only [r43_0, r43_1, r43_2, r43_5, r43_6, r43_9, r43_10, r43_11, r43_14, r43_15, r43_16, r43_19, r43_20, r43_21, r43_24, r43_25, r43_26, r43_29, r43_30, r43_31, r43_34, r43_35, r43_38, r43_41, r43_43, r43_45, r43_46, wo_nx, wo_ret, wo_ite, wo_call, bk_inl, mj_lda, mj_ldi, mj_sti, mj_sta, mj_b2, mj_br1, mj_br2, mj_brn, mj_ir, mj_rr, mj_nx, mj_gf, mj_fld, mj_k2, mj_rc, mj_cls, mj_dup, mj_inc, List.getElem?_cons_zero, List.getElem?_cons_succ, List.length_cons, List.length_nil, List.set_cons_succ, List.set_cons_zero, Nat.reduceAdd, Nat.reduceLT, if_true, if_false, mj_iif, decide_eq_true_eq, List.take_succ_cons, List.take_zero, List.reverse_cons, List.reverse_nil, List.nil_append, List.cons_append, List.drop_succ_cons, List.drop_zero, List.map_cons, List.map_nil, cat_i, cat_r, cat_n, Nat.reduceLeDiff, true_and, and_true, decide_true, Option.toList_some, Option.toList_none, and_self, Nat.le_refl, mj_vr, mj_zr, mj_th, wo_thr, mxl_0, mxl_1, mxl_2, mxl_3, mxl_4, mxl_5, mxl_6, mxl_7, mxl_8, mxl_9, mxl_10, mxl_11, mxl_12, mxl_13, mxl_14, mxl_15, mxl_16, mxl_17, mxl_18, mxl_19, mxl_20, mxl_21, mxl_22, mxl_23, mxl_24, mxl_25, mxl_26, mxl_27, mxl_28, mxl_29, mxl_30, mxl_31, mxl_32, mxl_33, mxl_34, mxl_35, mxl_36, mxl_37, mxl_38, mxl_39, mxl_40, mxl_41, mxl_42, mxl_43, mxl_44, mxl_45, mxl_46, mxl_47, mxl_48, mxl_49, mxl_50, mxl_51, mxl_52, mxl_53, mxl_54, mxl_55, mxl_56, mxl_57, mxl_58, mxl_59, mxl_60, mxl_61, mxl_62, mxl_63, mxl_64, mxl_65, mxl_66, mxl_67, mxl_68, mxl_69, mxl_70, mxl_71, mxl_72, mxl_73, mxl_74, mxl_75, mxl_76, mxl_77, mxl_78, mxl_79, mxl_80, mxl_81, mxl_82, mxl_83, mxl_84, mxl_85, mxl_86, mxl_136, mxl_137, g0, g1, g2, g9, g13, g20, C_checkMain h, cs_mainI hB hi, cs_rf, mj_aald, kr_5, kr_7, hix, hix2, hcl, cs_1_at hi, cs_1_at hn, va_rf, z92, z207, mj_mm, c0, Nat.zero_le, K_next (show x < 5 by omega)]
  simp only [r43_49, r43_51, r43_52, r43_55, r43_56, r43_57, r43_60, r43_63, r43_64, r43_67, r43_69, r43_72, r43_73, r43_74, wo_nx, wo_ret, wo_ite, wo_call, bk_inl, mj_lda, mj_ldi, mj_sti, mj_sta, mj_b2, mj_br1, mj_br2, mj_brn, mj_ir, mj_rr, mj_nx, mj_gf, mj_fld, mj_k2, mj_rc, mj_cls, mj_dup, mj_inc, List.getElem?_cons_zero, List.getElem?_cons_succ, List.length_cons, List.length_nil, List.set_cons_succ, List.set_cons_zero, Nat.reduceAdd, Nat.reduceLT, if_true, if_false, mj_iif, decide_eq_true_eq, List.take_succ_cons, List.take_zero, List.reverse_cons, List.reverse_nil, List.nil_append, List.cons_append, List.drop_succ_cons, List.drop_zero, List.map_cons, List.map_nil, cat_i, cat_r, cat_n, Nat.reduceLeDiff, true_and, and_true, decide_true, Option.toList_some, Option.toList_none, and_self, Nat.le_refl, mj_vr, mj_zr, mj_th, wo_thr, mxl_0, mxl_1, mxl_2, mxl_3, mxl_4, mxl_5, mxl_6, mxl_7, mxl_8, mxl_9, mxl_10, mxl_11, mxl_12, mxl_13, mxl_14, mxl_15, mxl_16, mxl_17, mxl_18, mxl_19, mxl_20, mxl_21, mxl_22, mxl_23, mxl_24, mxl_25, mxl_26, mxl_27, mxl_28, mxl_29, mxl_30, mxl_31, mxl_32, mxl_33, mxl_34, mxl_35, mxl_36, mxl_37, mxl_38, mxl_39, mxl_40, mxl_41, mxl_42, mxl_43, mxl_44, mxl_45, mxl_46, mxl_47, mxl_48, mxl_49, mxl_50, mxl_51, mxl_52, mxl_53, mxl_54, mxl_55, mxl_56, mxl_57, mxl_58, mxl_59, mxl_60, mxl_61, mxl_62, mxl_63, mxl_64, mxl_65, mxl_66, mxl_67, mxl_68, mxl_69, mxl_70, mxl_71, mxl_72, mxl_73, mxl_74, mxl_75, mxl_76, mxl_77, mxl_78, mxl_79, mxl_80, mxl_81, mxl_82, mxl_83, mxl_84, mxl_85, mxl_86, mxl_136, mxl_137, g0, g1, g9, g14, cs_rf, mj_aald, kr_7, hix2, hcl, cs_1_at hn, va_rf, z91, z143, c100, ne_eq, not_true_eq_false, hism]
  simp only [r43_77, r43_80, r43_82, r43_84, r43_85, r43_88, r43_101, r43_102, r43_104, wo_nx, wo_ret, wo_ite, wo_call, bk_inl, mj_lda, mj_ldi, mj_sti, mj_sta, mj_b2, mj_br1, mj_br2, mj_brn, mj_ir, mj_rr, mj_nx, mj_gf, mj_fld, mj_k2, mj_rc, mj_cls, mj_dup, mj_inc, List.getElem?_cons_zero, List.getElem?_cons_succ, List.length_cons, List.length_nil, List.set_cons_succ, List.set_cons_zero, Nat.reduceAdd, Nat.reduceLT, if_true, if_false, mj_iif, decide_eq_true_eq, List.take_succ_cons, List.take_zero, List.reverse_cons, List.reverse_nil, List.nil_append, List.cons_append, List.drop_succ_cons, List.drop_zero, List.map_cons, List.map_nil, cat_i, cat_r, cat_n, Nat.reduceLeDiff, true_and, and_true, decide_true, Option.toList_some, Option.toList_none, and_self, Nat.le_refl, mj_vr, mj_zr, mj_th, wo_thr, mxl_0, mxl_1, mxl_2, mxl_3, mxl_4, mxl_5, mxl_6, mxl_7, mxl_8, mxl_9, mxl_10, mxl_11, mxl_12, mxl_13, mxl_14, mxl_15, mxl_16, mxl_17, mxl_18, mxl_19, mxl_20, mxl_21, mxl_22, mxl_23, mxl_24, mxl_25, mxl_26, mxl_27, mxl_28, mxl_29, mxl_30, mxl_31, mxl_32, mxl_33, mxl_34, mxl_35, mxl_36, mxl_37, mxl_38, mxl_39, mxl_40, mxl_41, mxl_42, mxl_43, mxl_44, mxl_45, mxl_46, mxl_47, mxl_48, mxl_49, mxl_50, mxl_51, mxl_52, mxl_53, mxl_54, mxl_55, mxl_56, mxl_57, mxl_58, mxl_59, mxl_60, mxl_61, mxl_62, mxl_63, mxl_64, mxl_65, mxl_66, mxl_67, mxl_68, mxl_69, mxl_70, mxl_71, mxl_72, mxl_73, mxl_74, mxl_75, mxl_76, mxl_77, mxl_78, mxl_79, mxl_80, mxl_81, mxl_82, mxl_83, mxl_84, mxl_85, mxl_86, mxl_136, mxl_137, k_10, k8, hdiv, g20]
  refine C_begin h hi (fun τ n1 ht => ?_)
  generalize hs1 : cs_begin (cs_0 m) x (nI (8 + x)) = s1 at ht
  have ee : cs_end (cs_0 m) x = cs_0 m := if_pos rfl
  have v1 : ∀ k i, k ≠ 20 → cs_v s1 k i = cs_v (cs_0 m) k i := fun k i hk => by
    rw [← hs1]
    unfold cs_begin
    rw [cs_u_ne (by omega), ee]
  have v20 : cs_v s1 20 x = upd (upd (cs_v (cs_0 m) 20 x) 6 1) 7 (nI (8 + x)) := by
    rw [← hs1]
    unfold cs_begin
    rw [cs_u_eq, ee]
  have a1 : s1.1 = m := by rw [← hs1]; unfold cs_begin; rw [ee]; rfl
  have a21 : s1.2.1 = 0 := by rw [← hs1]; unfold cs_begin; rw [ee]; rfl
  have atd : s1.2.2.1 = fun _ => false := by rw [← hs1]; unfold cs_begin; rw [ee]; rfl
  have ar' : cs_r s1 = cs_r (cs_0 m) := by rw [← hs1]; unfold cs_begin; rw [ee]; rfl
  have hM1 : cs_M s1 0 := M_of c0_M a21 ar' (v1 3 0 (by decide)) (v1 4 0 (by decide)) (v1 6 0 (by decide))
  have hF1 : cc_F m x (nI (8 + x)) s1 := by
    refine ⟨?_, ?_, ?_, ?_, ?_, ?_, ?_, ?_, ?_, fun j => ⟨?_, ?_⟩, ?_, ?_⟩
    · rw [v1 0 0 (by decide)]; rfl
    · rw [v1 10 x (by decide)]; rfl
    · rw [v1 10 x (by decide)]; rfl
    · rw [v1 14 x (by decide)]; rfl
    · rw [v1 14 x (by decide)]; rfl
    · rw [v1 17 x (by decide)]; rfl
    · rw [v20, w_set_ne (by decide), w_set_at]
    · rw [v20, w_set_at]
    · rw [v20, w_set_ne (by decide), w_set_ne (by decide)]; rfl
    · rw [v1 27 _ (by decide)]; rfl
    · rw [v1 27 _ (by decide)]; rfl
    · rw [v1 0 0 (by decide)]; rfl
    · rw [v1 0 0 (by decide)]; rfl
  have hI1 : cc_I m x (nI (8 + x)) s1 s1 0 := ⟨hM1, a1, a21, atd, by rw [v1 3 0 (by decide)]; rfl, by rw [v1 6 0 (by decide)]; rfl, by rw [v1 6 0 (by decide)]; rfl, fun q => by omega, fun _ _ _ _ _ _ => rfl⟩
  have hi1 : x < s1.1 := by rw [a1]; exact hx
  have G0 := cs_g (k := 0) (i := 0) ht rfl
  have G14 := cs_g (k := 14) (i := x) ht (if_pos hi1)
  have w143 : cs_v s1 14 x 3 = nI 0 := hF1.2.2.2.1
  have w17 : cs_v s1 17 x 0 = ((1 : Int32) <<< (nI m &&& 31)) - 1 := hF1.2.2.2.2.2.1
  have hmem : ∀ Q' : (Option Value ⊕ String) → mj_S → Prop, mj_wp (tb ar) 11 (mj_en (tb ar) 11 [.ref (A (14, x)), .int (nI 0)] τ) Q' ↔ Q' (.inl (some (.int (((1 : Int32) <<< (nI m &&& 31)) - 1)))) τ := fun Q' => by
    rw [C_mem ht hi1 (by omega), w17]
  simp only [r43_107, r43_108, r43_109, r43_110, r43_111, r43_114, wo_nx, wo_ret, wo_ite, wo_call, bk_inl, mj_lda, mj_ldi, mj_sti, mj_sta, mj_b2, mj_br1, mj_br2, mj_brn, mj_ir, mj_rr, mj_nx, mj_gf, mj_fld, mj_k2, mj_rc, mj_cls, mj_dup, mj_inc, List.getElem?_cons_zero, List.getElem?_cons_succ, List.length_cons, List.length_nil, List.set_cons_succ, List.set_cons_zero, Nat.reduceAdd, Nat.reduceLT, if_true, if_false, mj_iif, decide_eq_true_eq, List.take_succ_cons, List.take_zero, List.reverse_cons, List.reverse_nil, List.nil_append, List.cons_append, List.drop_succ_cons, List.drop_zero, List.map_cons, List.map_nil, cat_i, cat_r, cat_n, Nat.reduceLeDiff, true_and, and_true, decide_true, Option.toList_some, Option.toList_none, and_self, Nat.le_refl, mj_vr, mj_zr, mj_th, wo_thr, mxl_0, mxl_1, mxl_2, mxl_3, mxl_4, mxl_5, mxl_6, mxl_7, mxl_8, mxl_9, mxl_10, mxl_11, mxl_12, mxl_13, mxl_14, mxl_15, mxl_16, mxl_17, mxl_18, mxl_19, mxl_20, mxl_21, mxl_22, mxl_23, mxl_24, mxl_25, mxl_26, mxl_27, mxl_28, mxl_29, mxl_30, mxl_31, mxl_32, mxl_33, mxl_34, mxl_35, mxl_36, mxl_37, mxl_38, mxl_39, mxl_40, mxl_41, mxl_42, mxl_43, mxl_44, mxl_45, mxl_46, mxl_47, mxl_48, mxl_49, mxl_50, mxl_51, mxl_52, mxl_53, mxl_54, mxl_55, mxl_56, mxl_57, mxl_58, mxl_59, mxl_60, mxl_61, mxl_62, mxl_63, mxl_64, mxl_65, mxl_66, mxl_67, mxl_68, mxl_69, mxl_70, mxl_71, mxl_72, mxl_73, mxl_74, mxl_75, mxl_76, mxl_77, mxl_78, mxl_79, mxl_80, mxl_81, mxl_82, mxl_83, mxl_84, mxl_85, mxl_86, mxl_136, mxl_137, G0, G14, w143, hmem]
  simp only [r43_117, wo_nx, wo_ret, wo_ite, wo_call, bk_inl, mj_lda, mj_ldi, mj_sti, mj_sta, mj_b2, mj_br1, mj_br2, mj_brn, mj_ir, mj_rr, mj_nx, mj_gf, mj_fld, mj_k2, mj_rc, mj_cls, mj_dup, mj_inc, List.getElem?_cons_zero, List.getElem?_cons_succ, List.length_cons, List.length_nil, List.set_cons_succ, List.set_cons_zero, Nat.reduceAdd, Nat.reduceLT, if_true, if_false, mj_iif, decide_eq_true_eq, List.take_succ_cons, List.take_zero, List.reverse_cons, List.reverse_nil, List.nil_append, List.cons_append, List.drop_succ_cons, List.drop_zero, List.map_cons, List.map_nil, cat_i, cat_r, cat_n, Nat.reduceLeDiff, true_and, and_true, decide_true, Option.toList_some, Option.toList_none, and_self, Nat.le_refl, mj_vr, mj_zr, mj_th, wo_thr, mxl_0, mxl_1, mxl_2, mxl_3, mxl_4, mxl_5, mxl_6, mxl_7, mxl_8, mxl_9, mxl_10, mxl_11, mxl_12, mxl_13, mxl_14, mxl_15, mxl_16, mxl_17, mxl_18, mxl_19, mxl_20, mxl_21, mxl_22, mxl_23, mxl_24, mxl_25, mxl_26, mxl_27, mxl_28, mxl_29, mxl_30, mxl_31, mxl_32, mxl_33, mxl_34, mxl_35, mxl_36, mxl_37, mxl_38, mxl_39, mxl_40, mxl_41, mxl_42, mxl_43, mxl_44, mxl_45, mxl_46, mxl_47, mxl_48, mxl_49, mxl_50, mxl_51, mxl_52, mxl_53, mxl_54, mxl_55, mxl_56, mxl_57, mxl_58, mxl_59, mxl_60, mxl_61, mxl_62, mxl_63, mxl_64, mxl_65, mxl_66, mxl_67, mxl_68, mxl_69, mxl_70, mxl_71, mxl_72, mxl_73, mxl_74, mxl_75, mxl_76, mxl_77, mxl_78, mxl_79, mxl_80, mxl_81, mxl_82, mxl_83, mxl_84, mxl_85, mxl_86, mxl_136, mxl_137, G0]
  refine C_sp hm hx ht hI1 hF1 (fun A2 τ2 s2 ht2 q0 q13 hI2 u1 u2 => ?_)
  obtain ⟨i1, i2, i3, i4, i5, i6, i7, i8, i9⟩ := hI2
  rw [if_pos hx] at i7
  obtain ⟨p, p1, p2, p3⟩ := i8 hx
  have H0 := cs_g (k := 0) (i := 0) ht2 rfl
  rw [q0] at H0
  simp only [r43_120, r43_121, r43_122, wo_nx, wo_ret, wo_ite, wo_call, bk_inl, mj_lda, mj_ldi, mj_sti, mj_sta, mj_b2, mj_br1, mj_br2, mj_brn, mj_ir, mj_rr, mj_nx, mj_gf, mj_fld, mj_k2, mj_rc, mj_cls, mj_dup, mj_inc, List.getElem?_cons_zero, List.getElem?_cons_succ, List.length_cons, List.length_nil, List.set_cons_succ, List.set_cons_zero, Nat.reduceAdd, Nat.reduceLT, if_true, if_false, mj_iif, decide_eq_true_eq, List.take_succ_cons, List.take_zero, List.reverse_cons, List.reverse_nil, List.nil_append, List.cons_append, List.drop_succ_cons, List.drop_zero, List.map_cons, List.map_nil, cat_i, cat_r, cat_n, Nat.reduceLeDiff, true_and, and_true, decide_true, Option.toList_some, Option.toList_none, and_self, Nat.le_refl, mj_vr, mj_zr, mj_th, wo_thr, mxl_0, mxl_1, mxl_2, mxl_3, mxl_4, mxl_5, mxl_6, mxl_7, mxl_8, mxl_9, mxl_10, mxl_11, mxl_12, mxl_13, mxl_14, mxl_15, mxl_16, mxl_17, mxl_18, mxl_19, mxl_20, mxl_21, mxl_22, mxl_23, mxl_24, mxl_25, mxl_26, mxl_27, mxl_28, mxl_29, mxl_30, mxl_31, mxl_32, mxl_33, mxl_34, mxl_35, mxl_36, mxl_37, mxl_38, mxl_39, mxl_40, mxl_41, mxl_42, mxl_43, mxl_44, mxl_45, mxl_46, mxl_47, mxl_48, mxl_49, mxl_50, mxl_51, mxl_52, mxl_53, mxl_54, mxl_55, mxl_56, mxl_57, mxl_58, mxl_59, mxl_60, mxl_61, mxl_62, mxl_63, mxl_64, mxl_65, mxl_66, mxl_67, mxl_68, mxl_69, mxl_70, mxl_71, mxl_72, mxl_73, mxl_74, mxl_75, mxl_76, mxl_77, mxl_78, mxl_79, mxl_80, mxl_81, mxl_82, mxl_83, mxl_84, mxl_85, mxl_86, mxl_136, mxl_137, H0]
  rw [← q0]
  have vv : ∀ k i, k ≠ 20 → cs_v (cs_u s2 20 x (upd (cs_v s2 20 x) 11 (cs_v s2 20 x 11 ||| (((1 : Int32) <<< (nI m &&& 31)) - 1)))) k i = cs_v s2 k i := fun k i hk => cs_u_ne (by omega)
  have vw : ∀ j, j ≠ 11 → cs_v (cs_u s2 20 x (upd (cs_v s2 20 x) 11 (cs_v s2 20 x 11 ||| (((1 : Int32) <<< (nI m &&& 31)) - 1)))) 20 x j = cs_v s1 20 x j := fun j hj => by
    rw [cs_u_eq, w_set_ne hj, i9 20 x (by decide) (by decide) (by decide) (by decide)]
  refine C_settle1 (s := cs_u s2 20 x (upd (cs_v s2 20 x) 11 (cs_v s2 20 x 11 ||| (((1 : Int32) <<< (nI m &&& 31)) - 1)))) (p := p) (b := nI (8 + x)) hm i2 hx ht2 (M_of i1 rfl rfl (vv 3 0 (by decide)) (vv 4 0 (by decide)) (vv 6 0 (by decide))) i4 (by rw [vv 3 0 (by decide)]; exact i5) (by rw [vv 6 0 (by decide)]; exact i6) (by rw [vv 6 0 (by decide)]; exact i7) (by show p < s2.2.1; omega) p2 (by rw [vv 30 p (by decide)]; exact p3) ?_ ?_ (fun τ3 w1 w2 => ?_)
  · rw [vv 9 x (by decide), i9 9 x (by decide) (by decide) (by decide) (by decide), v1 9 x (by decide)]
    show (0 : Int32) ≤ nI (8 + x)
    exact nI_pos' (by omega)
  · obtain ⟨f1, f2, f3, f4, f5, f6, f7, f8, f9, f10, f11, f12⟩ := hF1
    have e : ∀ k i, k = 0 ∨ k = 10 ∨ k = 14 ∨ k = 17 ∨ k = 27 → cs_v (cs_u s2 20 x (upd (cs_v s2 20 x) 11 (cs_v s2 20 x 11 ||| (((1 : Int32) <<< (nI m &&& 31)) - 1)))) k i = cs_v s1 k i := fun k i hk => by
      rw [vv k i (by omega), i9 k i (by omega) (by omega) (by omega) (by omega)]
    unfold cc_F
    rw [e 0 0 (by omega), e 10 x (by omega), e 14 x (by omega), e 17 x (by omega), vw 6 (by decide), vw 7 (by decide), vw 9 (by decide)]
    exact ⟨f1, f2, f3, f4, f5, f6, f7, f8, f9, fun j => by rw [e 27 (16 * x + j) (by omega)]; exact f10 j, f11, f12⟩
  · simp only [r43_125, r43_127, wo_nx, wo_ret, wo_ite, wo_call, bk_inl, mj_lda, mj_ldi, mj_sti, mj_sta, mj_b2, mj_br1, mj_br2, mj_brn, mj_ir, mj_rr, mj_nx, mj_gf, mj_fld, mj_k2, mj_rc, mj_cls, mj_dup, mj_inc, List.getElem?_cons_zero, List.getElem?_cons_succ, List.length_cons, List.length_nil, List.set_cons_succ, List.set_cons_zero, Nat.reduceAdd, Nat.reduceLT, if_true, if_false, mj_iif, decide_eq_true_eq, List.take_succ_cons, List.take_zero, List.reverse_cons, List.reverse_nil, List.nil_append, List.cons_append, List.drop_succ_cons, List.drop_zero, List.map_cons, List.map_nil, cat_i, cat_r, cat_n, Nat.reduceLeDiff, true_and, and_true, decide_true, Option.toList_some, Option.toList_none, and_self, Nat.le_refl, mj_vr, mj_zr, mj_th, wo_thr, mxl_0, mxl_1, mxl_2, mxl_3, mxl_4, mxl_5, mxl_6, mxl_7, mxl_8, mxl_9, mxl_10, mxl_11, mxl_12, mxl_13, mxl_14, mxl_15, mxl_16, mxl_17, mxl_18, mxl_19, mxl_20, mxl_21, mxl_22, mxl_23, mxl_24, mxl_25, mxl_26, mxl_27, mxl_28, mxl_29, mxl_30, mxl_31, mxl_32, mxl_33, mxl_34, mxl_35, mxl_36, mxl_37, mxl_38, mxl_39, mxl_40, mxl_41, mxl_42, mxl_43, mxl_44, mxl_45, mxl_46, mxl_47, mxl_48, mxl_49, mxl_50, mxl_51, mxl_52, mxl_53, mxl_54, mxl_55, mxl_56, mxl_57, mxl_58, mxl_59, mxl_60, mxl_61, mxl_62, mxl_63, mxl_64, mxl_65, mxl_66, mxl_67, mxl_68, mxl_69, mxl_70, mxl_71, mxl_72, mxl_73, mxl_74, mxl_75, mxl_76, mxl_77, mxl_78, mxl_79, mxl_80, mxl_81, mxl_82, mxl_83, mxl_84, mxl_85, mxl_86, mxl_136, mxl_137]
    refine hQ τ3 ?_ ?_
    · have := n1.1
      omega
    · have := n1.2
      omega
end CY
