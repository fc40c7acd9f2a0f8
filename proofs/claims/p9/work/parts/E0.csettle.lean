/-! the class's settle -/
section EA
variable {ar : Nat → ClassId} {A A0 A1 A' : tg_T → Nat} {s s0 s' s1 : cs_S} {σ σ0 σ1 τ : mj_S} {i p x y t a : Nat} {k : Int32} {Q : (Option Value ⊕ String) → mj_S → Prop} {W O U hd L X O2 : List Nat} {w : Nat → Int32}
/-- what x has sent to itself -/
def ct_O (s : cs_S) (x : Nat) (O : List Nat) : Prop := (∀ p ∈ O, cs_v s 30 p 1 = nI x) ∧ ((O.length ≤ 9 ∧ ∀ p ∈ O.tail, ¬ cs_v s 30 p 2 = 1) ∨ (O.length ≤ 110 ∧ ∀ p ∈ O, ¬ cs_v s 30 p 2 = 1))
theorem cO_nil : ct_O s x [] := ⟨(fun p hp => by cases hp), Or.inl ⟨by decide, fun p hp => by cases hp⟩⟩
def ct_ph (s : cs_S) (x : Nat) (O : List Nat) : Nat := fw (fun q => cs_v s 30 q 2) O + (if cs_v s 20 x 6 = 0 then 0 else 3 * ccu s x)
theorem ph_rl (r : ct_rl s s' x) : (if cs_v s' 20 x 6 = 0 then 0 else 3 * ccu s' x) ≤ (if cs_v s 20 x 6 = 0 then 0 else 3 * ccu s x) := by
  rcases r with h | ⟨h1, h2⟩
  · rw [if_pos h]
    exact Nat.zero_le _
  · rw [if_neg h2]
    split
    · exact Nat.zero_le _
    · unfold ccu
      rw [h1]
      exact Nat.le_refl _
theorem st_loop (hx : x < s0.1) (hl : hd.length ≤ 2) (hQ : ∀ A' s' τ X U', ct_I ar A' s' τ (W ++ X) [] U' hd → ct_D A0 s0 σ0 A' s' τ (W ++ hd) → Q (.inl none) τ) : ∀ (N c : Nat), c + N = 1000000 → ∀ A s σ X O U (l4 : Option Value), ct_I ar A s σ (W ++ X) O U hd → ct_D A0 s0 σ0 A s σ (W ++ hd) → ct_O s x O → ct_ph s x O < N → mj_wp (tb ar) 64 (13, [some (.ref (A0 (0, 0))), some (.int (nI x)), some (.ref (A0 (13, x))), some (.int (nI c)), l4], [], σ) Q
  | 0, c, h, A, s, σ, X, O, U, l4, I, D, ho, hph => absurd hph (Nat.not_lt_zero _)
  | N + 1, c, h, A, s, σ, X, O, U, l4, I, D, ho, hph => by
    have e1 : s.1 = s0.1 := D.1.2.2.1
    have hx1 : x < s.1 := by rw [e1]; exact hx
    have b5 := I.2.1.2.1
    have b2 := I.2.1.1
    have g0 := cs_g (k := 0) (i := 0) I.1 rfl
    have g3 := cs_g (k := 3) (i := 0) I.1 rfl
    have g6 := cs_g (k := 6) (i := 0) I.1 rfl
    have eM : (1000000 : Int32) = nI 1000000 := rfl
    have c1 : ¬ (1000000 : Int32) ≤ nI c := by
      rw [eM]
      exact nI_ge (by omega) (by decide)
    rw [← D.1.1 0 0 (by decide), ← D.1.1 13 x (by decide), r64_13]
    cases O with
    | nil =>
      simp only [r64_14, r64_16, r64_19, r64_20, r64_23, r64_26, r64_27, wo_nx, wo_ret, wo_ite, wo_call, bk_inl, mj_lda, mj_ldi, mj_sti, mj_sta, mj_b2, mj_br1, mj_br2, mj_brn, mj_ir, mj_rr, mj_nx, mj_gf, mj_fld, mj_k2, mj_rc, mj_cls, mj_dup, mj_inc, List.getElem?_cons_zero, List.getElem?_cons_succ, List.length_cons, List.length_nil, List.set_cons_succ, List.set_cons_zero, Nat.reduceAdd, Nat.reduceLT, if_true, if_false, mj_iif, decide_eq_true_eq, List.take_succ_cons, List.take_zero, List.reverse_cons, List.reverse_nil, List.nil_append, List.cons_append, List.drop_succ_cons, List.drop_zero, List.map_cons, List.map_nil, cat_i, cat_r, cat_n, Nat.reduceLeDiff, true_and, and_true, decide_true, Option.toList_some, Option.toList_none, and_self, Nat.le_refl, mj_vr, mj_zr, mj_th, wo_thr, mxl_0, mxl_1, mxl_2, mxl_3, mxl_4, mxl_5, mxl_6, mxl_7, mxl_8, mxl_9, mxl_10, mxl_11, mxl_12, mxl_13, mxl_14, mxl_15, mxl_16, mxl_17, mxl_18, mxl_19, mxl_20, mxl_21, mxl_22, mxl_23, mxl_24, mxl_25, mxl_26, mxl_27, mxl_28, mxl_29, mxl_30, mxl_31, mxl_32, mxl_33, mxl_34, mxl_35, mxl_36, mxl_37, mxl_38, mxl_39, mxl_40, mxl_41, mxl_42, mxl_43, mxl_44, mxl_45, mxl_46, mxl_47, mxl_48, mxl_49, mxl_50, mxl_51, mxl_52, mxl_53, mxl_54, mxl_55, mxl_56, mxl_57, mxl_58, mxl_59, mxl_60, mxl_61, mxl_62, mxl_63, mxl_64, mxl_65, mxl_66, mxl_67, mxl_68, mxl_69, mxl_70, mxl_71, mxl_72, mxl_73, mxl_74, mxl_75, mxl_76, mxl_77, mxl_78, mxl_79, mxl_80, mxl_81, mxl_82, mxl_83, mxl_84, mxl_85, mxl_86, mxl_136, mxl_137, mj_il, mj_ia, mj_is, mj_sa, mj_zs, mj_pf, mj_sf, mj_fit, Option.isSome_some, mj_pop, mj_dup2, mj_mm, ar_0, ar_1, cs_rf, mj_aald, kr_5, kr_7, va_rf, true_or, or_true, c1, g0, g3, g6, C_takeN I.1 I.2.2.1]
      simp only [r64_30, r64_32, r64_34, r64_55, r64_56, r64_57, r64_58, wo_nx, wo_ret, wo_ite, wo_call, bk_inl, mj_lda, mj_ldi, mj_sti, mj_sta, mj_b2, mj_br1, mj_br2, mj_brn, mj_ir, mj_rr, mj_nx, mj_gf, mj_fld, mj_k2, mj_rc, mj_cls, mj_dup, mj_inc, List.getElem?_cons_zero, List.getElem?_cons_succ, List.length_cons, List.length_nil, List.set_cons_succ, List.set_cons_zero, Nat.reduceAdd, Nat.reduceLT, if_true, if_false, mj_iif, decide_eq_true_eq, List.take_succ_cons, List.take_zero, List.reverse_cons, List.reverse_nil, List.nil_append, List.cons_append, List.drop_succ_cons, List.drop_zero, List.map_cons, List.map_nil, cat_i, cat_r, cat_n, Nat.reduceLeDiff, true_and, and_true, decide_true, Option.toList_some, Option.toList_none, and_self, Nat.le_refl, mj_vr, mj_zr, mj_th, wo_thr, mxl_0, mxl_1, mxl_2, mxl_3, mxl_4, mxl_5, mxl_6, mxl_7, mxl_8, mxl_9, mxl_10, mxl_11, mxl_12, mxl_13, mxl_14, mxl_15, mxl_16, mxl_17, mxl_18, mxl_19, mxl_20, mxl_21, mxl_22, mxl_23, mxl_24, mxl_25, mxl_26, mxl_27, mxl_28, mxl_29, mxl_30, mxl_31, mxl_32, mxl_33, mxl_34, mxl_35, mxl_36, mxl_37, mxl_38, mxl_39, mxl_40, mxl_41, mxl_42, mxl_43, mxl_44, mxl_45, mxl_46, mxl_47, mxl_48, mxl_49, mxl_50, mxl_51, mxl_52, mxl_53, mxl_54, mxl_55, mxl_56, mxl_57, mxl_58, mxl_59, mxl_60, mxl_61, mxl_62, mxl_63, mxl_64, mxl_65, mxl_66, mxl_67, mxl_68, mxl_69, mxl_70, mxl_71, mxl_72, mxl_73, mxl_74, mxl_75, mxl_76, mxl_77, mxl_78, mxl_79, mxl_80, mxl_81, mxl_82, mxl_83, mxl_84, mxl_85, mxl_86, mxl_136, mxl_137, mj_il, mj_ia, mj_is, mj_sa, mj_zs, mj_pf, mj_sf, mj_fit, Option.isSome_some, mj_pop, mj_dup2, mj_mm, ar_0, ar_1, cs_rf, mj_aald, kr_5, kr_7, va_rf, true_or, or_true, g0]
      refine C_goOn I hx1 (by omega) (fun b A1 s1 σ1 X1 O1 U1 I1 D1 G1 hb => ?_)
      have D01 : ct_D A0 s0 σ0 A1 s1 σ1 (W ++ hd) := D_tr D D1 (fun q hq => by
        simp only [List.mem_append] at hq ⊢
        rcases hq with h | h
        · exact Or.inl (Or.inl h)
        · exact Or.inr h)
      rcases hb with ⟨rfl, rfl⟩ | ⟨rfl, hne⟩
      · simp only [r64_61, r64_64, wo_nx, wo_ret, wo_ite, wo_call, bk_inl, mj_lda, mj_ldi, mj_sti, mj_sta, mj_b2, mj_br1, mj_br2, mj_brn, mj_ir, mj_rr, mj_nx, mj_gf, mj_fld, mj_k2, mj_rc, mj_cls, mj_dup, mj_inc, List.getElem?_cons_zero, List.getElem?_cons_succ, List.length_cons, List.length_nil, List.set_cons_succ, List.set_cons_zero, Nat.reduceAdd, Nat.reduceLT, if_true, if_false, mj_iif, decide_eq_true_eq, List.take_succ_cons, List.take_zero, List.reverse_cons, List.reverse_nil, List.nil_append, List.cons_append, List.drop_succ_cons, List.drop_zero, List.map_cons, List.map_nil, cat_i, cat_r, cat_n, Nat.reduceLeDiff, true_and, and_true, decide_true, Option.toList_some, Option.toList_none, and_self, Nat.le_refl, mj_vr, mj_zr, mj_th, wo_thr, mxl_0, mxl_1, mxl_2, mxl_3, mxl_4, mxl_5, mxl_6, mxl_7, mxl_8, mxl_9, mxl_10, mxl_11, mxl_12, mxl_13, mxl_14, mxl_15, mxl_16, mxl_17, mxl_18, mxl_19, mxl_20, mxl_21, mxl_22, mxl_23, mxl_24, mxl_25, mxl_26, mxl_27, mxl_28, mxl_29, mxl_30, mxl_31, mxl_32, mxl_33, mxl_34, mxl_35, mxl_36, mxl_37, mxl_38, mxl_39, mxl_40, mxl_41, mxl_42, mxl_43, mxl_44, mxl_45, mxl_46, mxl_47, mxl_48, mxl_49, mxl_50, mxl_51, mxl_52, mxl_53, mxl_54, mxl_55, mxl_56, mxl_57, mxl_58, mxl_59, mxl_60, mxl_61, mxl_62, mxl_63, mxl_64, mxl_65, mxl_66, mxl_67, mxl_68, mxl_69, mxl_70, mxl_71, mxl_72, mxl_73, mxl_74, mxl_75, mxl_76, mxl_77, mxl_78, mxl_79, mxl_80, mxl_81, mxl_82, mxl_83, mxl_84, mxl_85, mxl_86, mxl_136, mxl_137, mj_il, mj_ia, mj_is, mj_sa, mj_zs, mj_pf, mj_sf, mj_fit, Option.isSome_some, mj_pop, mj_dup2, mj_mm, ar_0, ar_1, cs_rf, mj_aald, kr_5, kr_7, va_rf, true_or, or_true, ne_eq, not_true_eq_false]
        exact hQ A1 s1 σ1 (X ++ X1) U1 (by rw [← List.append_assoc]; exact I1) D01
      · simp only [r64_61, r64_65, r64_68, wo_nx, wo_ret, wo_ite, wo_call, bk_inl, mj_lda, mj_ldi, mj_sti, mj_sta, mj_b2, mj_br1, mj_br2, mj_brn, mj_ir, mj_rr, mj_nx, mj_gf, mj_fld, mj_k2, mj_rc, mj_cls, mj_dup, mj_inc, List.getElem?_cons_zero, List.getElem?_cons_succ, List.length_cons, List.length_nil, List.set_cons_succ, List.set_cons_zero, Nat.reduceAdd, Nat.reduceLT, if_true, if_false, mj_iif, decide_eq_true_eq, List.take_succ_cons, List.take_zero, List.reverse_cons, List.reverse_nil, List.nil_append, List.cons_append, List.drop_succ_cons, List.drop_zero, List.map_cons, List.map_nil, cat_i, cat_r, cat_n, Nat.reduceLeDiff, true_and, and_true, decide_true, Option.toList_some, Option.toList_none, and_self, Nat.le_refl, mj_vr, mj_zr, mj_th, wo_thr, mxl_0, mxl_1, mxl_2, mxl_3, mxl_4, mxl_5, mxl_6, mxl_7, mxl_8, mxl_9, mxl_10, mxl_11, mxl_12, mxl_13, mxl_14, mxl_15, mxl_16, mxl_17, mxl_18, mxl_19, mxl_20, mxl_21, mxl_22, mxl_23, mxl_24, mxl_25, mxl_26, mxl_27, mxl_28, mxl_29, mxl_30, mxl_31, mxl_32, mxl_33, mxl_34, mxl_35, mxl_36, mxl_37, mxl_38, mxl_39, mxl_40, mxl_41, mxl_42, mxl_43, mxl_44, mxl_45, mxl_46, mxl_47, mxl_48, mxl_49, mxl_50, mxl_51, mxl_52, mxl_53, mxl_54, mxl_55, mxl_56, mxl_57, mxl_58, mxl_59, mxl_60, mxl_61, mxl_62, mxl_63, mxl_64, mxl_65, mxl_66, mxl_67, mxl_68, mxl_69, mxl_70, mxl_71, mxl_72, mxl_73, mxl_74, mxl_75, mxl_76, mxl_77, mxl_78, mxl_79, mxl_80, mxl_81, mxl_82, mxl_83, mxl_84, mxl_85, mxl_86, mxl_136, mxl_137, mj_il, mj_ia, mj_is, mj_sa, mj_zs, mj_pf, mj_sf, mj_fit, Option.isSome_some, mj_pop, mj_dup2, mj_mm, ar_0, ar_1, cs_rf, mj_aald, kr_5, kr_7, va_rf, true_or, or_true, k_10, nI_1, ne_eq, not_false_eq_true]
        rw [D.1.1 0 0 (by decide), D.1.1 13 x (by decide)]
        obtain ⟨G11, G12, G13, G14⟩ := G1
        have hcu : ccu s x ≤ 100 := cw_le 100
        have hno : ∀ q ∈ O1, ¬ cs_v s1 30 q 2 = 1 := fun q hq => by
          rw [(G14 q hq).1]
          decide
        have hrole : cs_v s 20 x 6 = 2 := by
          by_cases hr : cs_v s 20 x 6 = 2
          · exact hr
          · exact absurd (G12 hr) hne
        have hlen : 0 < O1.length := by
          cases O1 with
          | nil => exact absurd rfl hne
          | cons a b => exact Nat.zero_lt_succ _
        refine st_loop hx hl hQ N (c + 1) (by omega) A1 s1 σ1 (X ++ X1) O1 U1 _ (by rw [← List.append_assoc]; exact I1) D01 ⟨fun q hq => (G14 q hq).2, Or.inr ⟨by omega, hno⟩⟩ ?_
        have hfw := fw_le (f := fun q => cs_v s1 30 q 2) O1 hno
        have hr0 : ¬ cs_v s 20 x 6 = 0 := by
          rw [hrole]
          decide
        have hr1 : ¬ cs_v s1 20 x 6 = 0 := by
          rw [G11]
          exact hr0
        unfold ct_ph at hph ⊢
        rw [if_neg hr0] at hph
        rw [if_neg hr1]
        have e0 : fw (fun q => cs_v s 30 q 2) [] = 0 := rfl
        omega
    | cons p O =>
      simp only [r64_14, r64_16, r64_19, r64_20, r64_23, r64_26, r64_27, wo_nx, wo_ret, wo_ite, wo_call, bk_inl, mj_lda, mj_ldi, mj_sti, mj_sta, mj_b2, mj_br1, mj_br2, mj_brn, mj_ir, mj_rr, mj_nx, mj_gf, mj_fld, mj_k2, mj_rc, mj_cls, mj_dup, mj_inc, List.getElem?_cons_zero, List.getElem?_cons_succ, List.length_cons, List.length_nil, List.set_cons_succ, List.set_cons_zero, Nat.reduceAdd, Nat.reduceLT, if_true, if_false, mj_iif, decide_eq_true_eq, List.take_succ_cons, List.take_zero, List.reverse_cons, List.reverse_nil, List.nil_append, List.cons_append, List.drop_succ_cons, List.drop_zero, List.map_cons, List.map_nil, cat_i, cat_r, cat_n, Nat.reduceLeDiff, true_and, and_true, decide_true, Option.toList_some, Option.toList_none, and_self, Nat.le_refl, mj_vr, mj_zr, mj_th, wo_thr, mxl_0, mxl_1, mxl_2, mxl_3, mxl_4, mxl_5, mxl_6, mxl_7, mxl_8, mxl_9, mxl_10, mxl_11, mxl_12, mxl_13, mxl_14, mxl_15, mxl_16, mxl_17, mxl_18, mxl_19, mxl_20, mxl_21, mxl_22, mxl_23, mxl_24, mxl_25, mxl_26, mxl_27, mxl_28, mxl_29, mxl_30, mxl_31, mxl_32, mxl_33, mxl_34, mxl_35, mxl_36, mxl_37, mxl_38, mxl_39, mxl_40, mxl_41, mxl_42, mxl_43, mxl_44, mxl_45, mxl_46, mxl_47, mxl_48, mxl_49, mxl_50, mxl_51, mxl_52, mxl_53, mxl_54, mxl_55, mxl_56, mxl_57, mxl_58, mxl_59, mxl_60, mxl_61, mxl_62, mxl_63, mxl_64, mxl_65, mxl_66, mxl_67, mxl_68, mxl_69, mxl_70, mxl_71, mxl_72, mxl_73, mxl_74, mxl_75, mxl_76, mxl_77, mxl_78, mxl_79, mxl_80, mxl_81, mxl_82, mxl_83, mxl_84, mxl_85, mxl_86, mxl_136, mxl_137, mj_il, mj_ia, mj_is, mj_sa, mj_zs, mj_pf, mj_sf, mj_fit, Option.isSome_some, mj_pop, mj_dup2, mj_mm, ar_0, ar_1, cs_rf, mj_aald, kr_5, kr_7, va_rf, true_or, or_true, c1, g0, g3, g6]
      refine C_takeO I.1 I.2.2.1 (fun σ1 s1 n1 h1 P1 k1 v1 => ?_)
      have e30 : ∀ q, cs_v s1 30 q = cs_v s 30 q := fun q => v1 30 q (by decide)
      have e1' : s1.1 = s.1 := k1.1
      have I1 : ct_I ar A s1 σ1 (W ++ X) O U (p :: hd) := by
        refine ⟨h1, ?_, P1, fun k i => ?_⟩
        · obtain ⟨a1, a2, a3, a4⟩ := I.2.1
          exact ⟨by rw [e1']; exact a1, by rw [e1']; exact a2, by rw [v1 0 0 (by decide), e1']; exact a3, by rw [v1 0 0 (by decide), e1']; exact a4⟩
        · rw [e1']
          by_cases hk : k = 6
          · subst hk
            trivial
          · rw [v1 k i hk]
            exact I.2.2.2 k i
      have D1 : ct_D A s σ A s1 σ1 (W ++ hd) := ⟨ct_F_n k1.1 k1.2.1 k1.2.2 n1, fun i => by rw [v1 9 i (by decide)], fun q _ => e30 q⟩
      have r1 : ct_rl s s1 x := crl_of (by rw [v1 20 x (by decide)]) (v1 22 x (by decide))
      have H0 := cs_g (k := 0) (i := 0) I1.1 rfl
      simp only [r64_30, r64_32, r64_34, r64_37, r64_38, r64_40, wo_nx, wo_ret, wo_ite, wo_call, bk_inl, mj_lda, mj_ldi, mj_sti, mj_sta, mj_b2, mj_br1, mj_br2, mj_brn, mj_ir, mj_rr, mj_nx, mj_gf, mj_fld, mj_k2, mj_rc, mj_cls, mj_dup, mj_inc, List.getElem?_cons_zero, List.getElem?_cons_succ, List.length_cons, List.length_nil, List.set_cons_succ, List.set_cons_zero, Nat.reduceAdd, Nat.reduceLT, if_true, if_false, mj_iif, decide_eq_true_eq, List.take_succ_cons, List.take_zero, List.reverse_cons, List.reverse_nil, List.nil_append, List.cons_append, List.drop_succ_cons, List.drop_zero, List.map_cons, List.map_nil, cat_i, cat_r, cat_n, Nat.reduceLeDiff, true_and, and_true, decide_true, Option.toList_some, Option.toList_none, and_self, Nat.le_refl, mj_vr, mj_zr, mj_th, wo_thr, mxl_0, mxl_1, mxl_2, mxl_3, mxl_4, mxl_5, mxl_6, mxl_7, mxl_8, mxl_9, mxl_10, mxl_11, mxl_12, mxl_13, mxl_14, mxl_15, mxl_16, mxl_17, mxl_18, mxl_19, mxl_20, mxl_21, mxl_22, mxl_23, mxl_24, mxl_25, mxl_26, mxl_27, mxl_28, mxl_29, mxl_30, mxl_31, mxl_32, mxl_33, mxl_34, mxl_35, mxl_36, mxl_37, mxl_38, mxl_39, mxl_40, mxl_41, mxl_42, mxl_43, mxl_44, mxl_45, mxl_46, mxl_47, mxl_48, mxl_49, mxl_50, mxl_51, mxl_52, mxl_53, mxl_54, mxl_55, mxl_56, mxl_57, mxl_58, mxl_59, mxl_60, mxl_61, mxl_62, mxl_63, mxl_64, mxl_65, mxl_66, mxl_67, mxl_68, mxl_69, mxl_70, mxl_71, mxl_72, mxl_73, mxl_74, mxl_75, mxl_76, mxl_77, mxl_78, mxl_79, mxl_80, mxl_81, mxl_82, mxl_83, mxl_84, mxl_85, mxl_86, mxl_136, mxl_137, mj_il, mj_ia, mj_is, mj_sa, mj_zs, mj_pf, mj_sf, mj_fit, Option.isSome_some, mj_pop, mj_dup2, mj_mm, ar_0, ar_1, cs_rf, mj_aald, kr_5, kr_7, va_rf, true_or, or_true, H0]
      have hpo : cs_v s 30 p 1 = nI x := ho.1 p List.mem_cons_self
      have hpf : cs_v s 30 p 0 = nI x := (I.2.2.1.2.2.2.2.2.2.2.2 p List.mem_cons_self).trans hpo
      have hlO : O.length + 1 ≤ 110 := by
        rcases ho.2 with ⟨h, -⟩ | ⟨h, -⟩
        · have : O.length + 1 ≤ 9 := h
          omega
        · exact h
      have hhd : (p :: hd).length = hd.length + 1 := rfl
      refine C_handle (hd := p :: hd) (O := O) (k := cs_v s 30 p 2) (x := x) (y := x) I1 List.mem_cons_self (by omega) (by omega) (by rw [e30]; exact hpf) (by rw [e30]; exact hpo) (by rw [e30]) (by omega) (fun _ => by omega) (fun σ2 hH => ?_)
      obtain ⟨A2, s2, X2, O2, U2, I2, D2, ⟨-, h2o⟩, h2k, h2r⟩ := hH
      have e2 : s2.1 = s1.1 := D2.1.2.2.1
      have D12 : ct_D A0 s0 σ0 A2 s2 σ2 (W ++ hd) := D_tr D (D_tr D1 D2 (fun q hq => by
        simp only [List.mem_append, List.mem_cons] at hq ⊢
        rcases hq with h | h
        · exact Or.inl (Or.inl (Or.inl h))
        · exact Or.inr (Or.inr h))) (fun _ h => h)
      have K0 := cs_g (k := 0) (i := 0) I2.1 rfl
      have K3 := cs_g (k := 3) (i := 0) I2.1 rfl
      have hp1 : p < s1.2.1 := hd_lt I1 List.mem_cons_self
      rw [← D2.1.1 0 0 (by decide), ← D2.1.1 13 x (by decide), ← D2.1.2.1 p hp1]
      simp only [r64_43, r64_44, r64_47, r64_49, wo_nx, wo_ret, wo_ite, wo_call, bk_inl, mj_lda, mj_ldi, mj_sti, mj_sta, mj_b2, mj_br1, mj_br2, mj_brn, mj_ir, mj_rr, mj_nx, mj_gf, mj_fld, mj_k2, mj_rc, mj_cls, mj_dup, mj_inc, List.getElem?_cons_zero, List.getElem?_cons_succ, List.length_cons, List.length_nil, List.set_cons_succ, List.set_cons_zero, Nat.reduceAdd, Nat.reduceLT, if_true, if_false, mj_iif, decide_eq_true_eq, List.take_succ_cons, List.take_zero, List.reverse_cons, List.reverse_nil, List.nil_append, List.cons_append, List.drop_succ_cons, List.drop_zero, List.map_cons, List.map_nil, cat_i, cat_r, cat_n, Nat.reduceLeDiff, true_and, and_true, decide_true, Option.toList_some, Option.toList_none, and_self, Nat.le_refl, mj_vr, mj_zr, mj_th, wo_thr, mxl_0, mxl_1, mxl_2, mxl_3, mxl_4, mxl_5, mxl_6, mxl_7, mxl_8, mxl_9, mxl_10, mxl_11, mxl_12, mxl_13, mxl_14, mxl_15, mxl_16, mxl_17, mxl_18, mxl_19, mxl_20, mxl_21, mxl_22, mxl_23, mxl_24, mxl_25, mxl_26, mxl_27, mxl_28, mxl_29, mxl_30, mxl_31, mxl_32, mxl_33, mxl_34, mxl_35, mxl_36, mxl_37, mxl_38, mxl_39, mxl_40, mxl_41, mxl_42, mxl_43, mxl_44, mxl_45, mxl_46, mxl_47, mxl_48, mxl_49, mxl_50, mxl_51, mxl_52, mxl_53, mxl_54, mxl_55, mxl_56, mxl_57, mxl_58, mxl_59, mxl_60, mxl_61, mxl_62, mxl_63, mxl_64, mxl_65, mxl_66, mxl_67, mxl_68, mxl_69, mxl_70, mxl_71, mxl_72, mxl_73, mxl_74, mxl_75, mxl_76, mxl_77, mxl_78, mxl_79, mxl_80, mxl_81, mxl_82, mxl_83, mxl_84, mxl_85, mxl_86, mxl_136, mxl_137, mj_il, mj_ia, mj_is, mj_sa, mj_zs, mj_pf, mj_sf, mj_fit, Option.isSome_some, mj_pop, mj_dup2, mj_mm, ar_0, ar_1, cs_rf, mj_aald, kr_5, kr_7, va_rf, true_or, or_true, K0, K3]
      refine C_relP I2.1 I2.2.2.1 (fun σ3 s3 n3 h3 P3 k3 v3 => ?_)
      have f30 : ∀ q, cs_v s3 30 q = cs_v s2 30 q := fun q => v3 30 q (by decide)
      have e3 : s3.1 = s2.1 := k3.1
      have I3 : ct_I ar A2 s3 σ3 (W ++ X ++ X2) (O ++ O2) (U2 ++ [p]) hd := by
        refine ⟨h3, ?_, P3, fun k i => ?_⟩
        · obtain ⟨a1, a2, a3, a4⟩ := I2.2.1
          exact ⟨by rw [e3]; exact a1, by rw [e3]; exact a2, by rw [v3 0 0 (by decide), e3]; exact a3, by rw [v3 0 0 (by decide), e3]; exact a4⟩
        · rw [e3]
          by_cases hk : k = 3
          · subst hk
            trivial
          · rw [v3 k i hk]
            exact I2.2.2.2 k i
      have D3 : ct_D A2 s2 σ2 A2 s3 σ3 (W ++ hd) := ⟨ct_F_n k3.1 k3.2.1 k3.2.2 n3, fun i => by rw [v3 9 i (by decide)], fun q _ => f30 q⟩
      have r3 : ct_rl s s3 x := crl_tr r1 (crl_tr (h2r (by rw [e1']; exact hx1)) (crl_of (by rw [v3 20 x (by decide)]) (v3 22 x (by decide))))
      simp only [r64_52, r64_65, r64_68, wo_nx, wo_ret, wo_ite, wo_call, bk_inl, mj_lda, mj_ldi, mj_sti, mj_sta, mj_b2, mj_br1, mj_br2, mj_brn, mj_ir, mj_rr, mj_nx, mj_gf, mj_fld, mj_k2, mj_rc, mj_cls, mj_dup, mj_inc, List.getElem?_cons_zero, List.getElem?_cons_succ, List.length_cons, List.length_nil, List.set_cons_succ, List.set_cons_zero, Nat.reduceAdd, Nat.reduceLT, if_true, if_false, mj_iif, decide_eq_true_eq, List.take_succ_cons, List.take_zero, List.reverse_cons, List.reverse_nil, List.nil_append, List.cons_append, List.drop_succ_cons, List.drop_zero, List.map_cons, List.map_nil, cat_i, cat_r, cat_n, Nat.reduceLeDiff, true_and, and_true, decide_true, Option.toList_some, Option.toList_none, and_self, Nat.le_refl, mj_vr, mj_zr, mj_th, wo_thr, mxl_0, mxl_1, mxl_2, mxl_3, mxl_4, mxl_5, mxl_6, mxl_7, mxl_8, mxl_9, mxl_10, mxl_11, mxl_12, mxl_13, mxl_14, mxl_15, mxl_16, mxl_17, mxl_18, mxl_19, mxl_20, mxl_21, mxl_22, mxl_23, mxl_24, mxl_25, mxl_26, mxl_27, mxl_28, mxl_29, mxl_30, mxl_31, mxl_32, mxl_33, mxl_34, mxl_35, mxl_36, mxl_37, mxl_38, mxl_39, mxl_40, mxl_41, mxl_42, mxl_43, mxl_44, mxl_45, mxl_46, mxl_47, mxl_48, mxl_49, mxl_50, mxl_51, mxl_52, mxl_53, mxl_54, mxl_55, mxl_56, mxl_57, mxl_58, mxl_59, mxl_60, mxl_61, mxl_62, mxl_63, mxl_64, mxl_65, mxl_66, mxl_67, mxl_68, mxl_69, mxl_70, mxl_71, mxl_72, mxl_73, mxl_74, mxl_75, mxl_76, mxl_77, mxl_78, mxl_79, mxl_80, mxl_81, mxl_82, mxl_83, mxl_84, mxl_85, mxl_86, mxl_136, mxl_137, mj_il, mj_ia, mj_is, mj_sa, mj_zs, mj_pf, mj_sf, mj_fit, Option.isSome_some, mj_pop, mj_dup2, mj_mm, ar_0, ar_1, cs_rf, mj_aald, kr_5, kr_7, va_rf, true_or, or_true, nI_1]
      rw [D2.1.1 0 0 (by decide), D2.1.1 13 x (by decide), D.1.1 0 0 (by decide), D.1.1 13 x (by decide)]
      have kO : ∀ q ∈ O, cs_v s3 30 q = cs_v s 30 q := fun q hq => by
        rw [f30, D2.2.2 q (by simp only [List.mem_append]; exact Or.inl (Or.inr hq)), e30]
      have hOt : ∀ q ∈ O, ¬ cs_v s 30 q 2 = 1 := fun q hq => by
        rcases ho.2 with ⟨-, h⟩ | ⟨-, h⟩
        · exact h q hq
        · exact h q (List.mem_cons_of_mem _ hq)
      have h2n : ∀ q ∈ O2, ¬ cs_v s2 30 q 2 = 1 := fun q hq => by
        rcases h2k with ⟨-, -, h⟩ | ⟨-, -, h⟩ | h
        · exact h q hq
        · intro e
          have := h q hq
          rw [e] at this
          exact absurd this (by decide)
        · rw [h] at hq
          cases hq
      have hno : ∀ q ∈ O ++ O2, ¬ cs_v s3 30 q 2 = 1 := fun q hq => by
        rcases List.mem_append.mp hq with h | h
        · rw [kO q h]
          exact hOt q h
        · rw [f30]
          exact h2n q h
      have hlen : (O ++ O2).length ≤ 110 := by
        rw [List.length_append]
        rcases h2k with ⟨hk1, h, -⟩ | ⟨-, h, -⟩ | h
        · rcases ho.2 with ⟨h9, -⟩ | ⟨-, hn⟩
          · have : O.length + 1 ≤ 9 := h9
            omega
          · exact absurd hk1 (hn p List.mem_cons_self)
        · omega
        · rw [h]
          show O.length + 0 ≤ 110
          omega
      refine st_loop hx hl hQ N (c + 1) (by omega) A2 s3 σ3 (X ++ X2) (O ++ O2) (U2 ++ [p]) _ (by rw [← List.append_assoc]; exact I3) (D_tr D12 D3 (fun _ h => h)) ⟨fun q hq => ?_, Or.inr ⟨hlen, hno⟩⟩ ?_
      · rcases List.mem_append.mp hq with h | h
        · rw [kO q h]
          exact ho.1 q (List.mem_cons_of_mem _ h)
        · rw [f30]
          exact h2o q h
      · have f1 : fw (fun q => cs_v s3 30 q 2) O = fw (fun q => cs_v s 30 q 2) O := fw_cg O (fun q hq => by show cs_v s3 30 q 2 = cs_v s 30 q 2; rw [kO q hq])
        have f2 : fw (fun q => cs_v s3 30 q 2) O2 + 1 ≤ wt_ (cs_v s 30 p 2) := by
          have f3 : fw (fun q => cs_v s3 30 q 2) O2 = fw (fun q => cs_v s2 30 q 2) O2 := fw_cg O2 (fun q hq => by show cs_v s3 30 q 2 = cs_v s2 30 q 2; rw [f30])
          rw [f3]
          rcases h2k with ⟨a1, a2, a3⟩ | ⟨a1, a2, a3⟩ | h'
          · have := fw_le (f := fun q => cs_v s2 30 q 2) O2 a3
            rw [a1]
            show _ ≤ 300
            omega
          · rw [fw_1 (f := fun q => cs_v s2 30 q 2) O2 a3]
            have : wt_ (cs_v s 30 p 2) = 2 := by
              rcases a1 with a1 | a1 <;> rw [a1] <;> decide
            omega
          · rw [h']
            exact wt_pos
        have hr := ph_rl r3
        unfold ct_ph at hph ⊢
        have e0 : fw (fun q => cs_v s 30 q 2) (p :: O) = wt_ (cs_v s 30 p 2) + fw (fun q => cs_v s 30 q 2) O := rfl
        rw [e0] at hph
        rw [fw_ap]
        omega
theorem fw_big {f : Nat → Int32} : ∀ O : List Nat, fw f O ≤ 300 * O.length
  | [] => Nat.le_refl _
  | p :: O => by
    have ih := fw_big (f := f) O
    have h1 : wt_ (f p) ≤ 300 := by
      unfold wt_
      split
      · decide
      · split <;> decide
    show wt_ (f p) + fw f O ≤ 300 * (O.length + 1)
    omega
/-- settle(x) -/
theorem C_settle (I : ct_I ar A s σ W O U hd) (hx : x < 2 * s.1 - 1) (hl : hd.length ≤ 2) (ho : ct_O s x O) (hsp : ¬ x < s.1 → O = []) (hQ : ∀ A' s' τ X U', ct_I ar A' s' τ (W ++ X) [] U' hd → ct_D A s σ A' s' τ (W ++ hd) → Q (.inl none) τ) : mj_wp (tb ar) 64 (mj_en (tb ar) 64 [.ref (A (0, 0)), .int (nI x)] σ) Q := by
  rw [ent_64]
  have g0 := cs_g (k := 0) (i := 0) I.1 rfl
  obtain ⟨mv, hmv, hmo⟩ := C_mOf I hx
  simp only [r64_0, r64_1, r64_2, wo_nx, wo_ret, wo_ite, wo_call, bk_inl, mj_lda, mj_ldi, mj_sti, mj_sta, mj_b2, mj_br1, mj_br2, mj_brn, mj_ir, mj_rr, mj_nx, mj_gf, mj_fld, mj_k2, mj_rc, mj_cls, mj_dup, mj_inc, List.getElem?_cons_zero, List.getElem?_cons_succ, List.length_cons, List.length_nil, List.set_cons_succ, List.set_cons_zero, Nat.reduceAdd, Nat.reduceLT, if_true, if_false, mj_iif, decide_eq_true_eq, List.take_succ_cons, List.take_zero, List.reverse_cons, List.reverse_nil, List.nil_append, List.cons_append, List.drop_succ_cons, List.drop_zero, List.map_cons, List.map_nil, cat_i, cat_r, cat_n, Nat.reduceLeDiff, true_and, and_true, decide_true, Option.toList_some, Option.toList_none, and_self, Nat.le_refl, mj_vr, mj_zr, mj_th, wo_thr, mxl_0, mxl_1, mxl_2, mxl_3, mxl_4, mxl_5, mxl_6, mxl_7, mxl_8, mxl_9, mxl_10, mxl_11, mxl_12, mxl_13, mxl_14, mxl_15, mxl_16, mxl_17, mxl_18, mxl_19, mxl_20, mxl_21, mxl_22, mxl_23, mxl_24, mxl_25, mxl_26, mxl_27, mxl_28, mxl_29, mxl_30, mxl_31, mxl_32, mxl_33, mxl_34, mxl_35, mxl_36, mxl_37, mxl_38, mxl_39, mxl_40, mxl_41, mxl_42, mxl_43, mxl_44, mxl_45, mxl_46, mxl_47, mxl_48, mxl_49, mxl_50, mxl_51, mxl_52, mxl_53, mxl_54, mxl_55, mxl_56, mxl_57, mxl_58, mxl_59, mxl_60, mxl_61, mxl_62, mxl_63, mxl_64, mxl_65, mxl_66, mxl_67, mxl_68, mxl_69, mxl_70, mxl_71, mxl_72, mxl_73, mxl_74, mxl_75, mxl_76, mxl_77, mxl_78, mxl_79, mxl_80, mxl_81, mxl_82, mxl_83, mxl_84, mxl_85, mxl_86, mxl_136, mxl_137, mj_il, mj_ia, mj_is, mj_sa, mj_zs, mj_pf, mj_sf, mj_fit, Option.isSome_some, mj_pop, mj_dup2, mj_mm, ar_0, ar_1, cs_rf, mj_aald, kr_5, kr_7, va_rf, true_or, or_true, g0, hmo]
  rcases hmv with ⟨hxm, rfl⟩ | ⟨hxm, rfl⟩
  · simp only [r64_5, r64_6, r64_7, r64_10, wo_nx, wo_ret, wo_ite, wo_call, bk_inl, mj_lda, mj_ldi, mj_sti, mj_sta, mj_b2, mj_br1, mj_br2, mj_brn, mj_ir, mj_rr, mj_nx, mj_gf, mj_fld, mj_k2, mj_rc, mj_cls, mj_dup, mj_inc, List.getElem?_cons_zero, List.getElem?_cons_succ, List.length_cons, List.length_nil, List.set_cons_succ, List.set_cons_zero, Nat.reduceAdd, Nat.reduceLT, if_true, if_false, mj_iif, decide_eq_true_eq, List.take_succ_cons, List.take_zero, List.reverse_cons, List.reverse_nil, List.nil_append, List.cons_append, List.drop_succ_cons, List.drop_zero, List.map_cons, List.map_nil, cat_i, cat_r, cat_n, Nat.reduceLeDiff, true_and, and_true, decide_true, Option.toList_some, Option.toList_none, and_self, Nat.le_refl, mj_vr, mj_zr, mj_th, wo_thr, mxl_0, mxl_1, mxl_2, mxl_3, mxl_4, mxl_5, mxl_6, mxl_7, mxl_8, mxl_9, mxl_10, mxl_11, mxl_12, mxl_13, mxl_14, mxl_15, mxl_16, mxl_17, mxl_18, mxl_19, mxl_20, mxl_21, mxl_22, mxl_23, mxl_24, mxl_25, mxl_26, mxl_27, mxl_28, mxl_29, mxl_30, mxl_31, mxl_32, mxl_33, mxl_34, mxl_35, mxl_36, mxl_37, mxl_38, mxl_39, mxl_40, mxl_41, mxl_42, mxl_43, mxl_44, mxl_45, mxl_46, mxl_47, mxl_48, mxl_49, mxl_50, mxl_51, mxl_52, mxl_53, mxl_54, mxl_55, mxl_56, mxl_57, mxl_58, mxl_59, mxl_60, mxl_61, mxl_62, mxl_63, mxl_64, mxl_65, mxl_66, mxl_67, mxl_68, mxl_69, mxl_70, mxl_71, mxl_72, mxl_73, mxl_74, mxl_75, mxl_76, mxl_77, mxl_78, mxl_79, mxl_80, mxl_81, mxl_82, mxl_83, mxl_84, mxl_85, mxl_86, mxl_136, mxl_137, mj_il, mj_ia, mj_is, mj_sa, mj_zs, mj_pf, mj_sf, mj_fit, Option.isSome_some, mj_pop, mj_dup2, mj_mm, ar_0, ar_1, cs_rf, mj_aald, kr_5, kr_7, va_rf, true_or, or_true]
    have hO := hsp hxm
    subst hO
    exact hQ A s σ [] U (by rw [List.append_nil]; exact I) D_rf
  · simp only [r64_5, r64_6, r64_7, r64_11, r64_12, wo_nx, wo_ret, wo_ite, wo_call, bk_inl, mj_lda, mj_ldi, mj_sti, mj_sta, mj_b2, mj_br1, mj_br2, mj_brn, mj_ir, mj_rr, mj_nx, mj_gf, mj_fld, mj_k2, mj_rc, mj_cls, mj_dup, mj_inc, List.getElem?_cons_zero, List.getElem?_cons_succ, List.length_cons, List.length_nil, List.set_cons_succ, List.set_cons_zero, Nat.reduceAdd, Nat.reduceLT, if_true, if_false, mj_iif, decide_eq_true_eq, List.take_succ_cons, List.take_zero, List.reverse_cons, List.reverse_nil, List.nil_append, List.cons_append, List.drop_succ_cons, List.drop_zero, List.map_cons, List.map_nil, cat_i, cat_r, cat_n, Nat.reduceLeDiff, true_and, and_true, decide_true, Option.toList_some, Option.toList_none, and_self, Nat.le_refl, mj_vr, mj_zr, mj_th, wo_thr, mxl_0, mxl_1, mxl_2, mxl_3, mxl_4, mxl_5, mxl_6, mxl_7, mxl_8, mxl_9, mxl_10, mxl_11, mxl_12, mxl_13, mxl_14, mxl_15, mxl_16, mxl_17, mxl_18, mxl_19, mxl_20, mxl_21, mxl_22, mxl_23, mxl_24, mxl_25, mxl_26, mxl_27, mxl_28, mxl_29, mxl_30, mxl_31, mxl_32, mxl_33, mxl_34, mxl_35, mxl_36, mxl_37, mxl_38, mxl_39, mxl_40, mxl_41, mxl_42, mxl_43, mxl_44, mxl_45, mxl_46, mxl_47, mxl_48, mxl_49, mxl_50, mxl_51, mxl_52, mxl_53, mxl_54, mxl_55, mxl_56, mxl_57, mxl_58, mxl_59, mxl_60, mxl_61, mxl_62, mxl_63, mxl_64, mxl_65, mxl_66, mxl_67, mxl_68, mxl_69, mxl_70, mxl_71, mxl_72, mxl_73, mxl_74, mxl_75, mxl_76, mxl_77, mxl_78, mxl_79, mxl_80, mxl_81, mxl_82, mxl_83, mxl_84, mxl_85, mxl_86, mxl_136, mxl_137, mj_il, mj_ia, mj_is, mj_sa, mj_zs, mj_pf, mj_sf, mj_fit, Option.isSome_some, mj_pop, mj_dup2, mj_mm, ar_0, ar_1, cs_rf, mj_aald, kr_5, kr_7, va_rf, true_or, or_true]
    have hcu : ccu s x ≤ 100 := cw_le 100
    have hfw := fw_big (f := fun q => cs_v s 30 q 2) O
    have hlO : O.length ≤ 110 := by
      rcases ho.2 with ⟨h, -⟩ | ⟨h, -⟩
      · omega
      · exact h
    have hph : ct_ph s x O < 1000000 := by
      unfold ct_ph
      split <;> omega
    have h := st_loop (ar := ar) (A0 := A) (s0 := s) (σ0 := σ) (Q := Q) (W := W) (hd := hd) hxm hl hQ 1000000 0 (by omega) A s σ [] O U none (by rw [List.append_nil]; exact I) D_rf ho hph
    rw [nI_0] at h
    exact h
end EA
