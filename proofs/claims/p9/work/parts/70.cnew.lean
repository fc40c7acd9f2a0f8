section CN
variable {ar : Nat → ClassId} {A : tg_T → Nat} {H : tg_T → Option va_E} {σ : mj_S} {t : tg_T} {e : va_E} {Q : (Option Value ⊕ String) → mj_S → Prop}
/-- a new cell, where the layout has it -/
theorem tg_newf (h : tg_R A H σ) (ht : H t = none) (ha : A t = σ.1) (n : Nat) (e : va_E) : tg_R A (tg_up H t e) (mj_add σ n e) := by
  have h1 := tg_new h ht n e
  have e1 : tg_at A t σ.1 = A := by
    funext u
    unfold tg_at
    by_cases hu : u = t
    · rw [if_pos hu, hu, ha]
    · rw [if_neg hu]
  rw [e1] at h1
  exact h1
theorem up_new' {n a : Nat} {e e' : va_E} (h : a = σ.1) : mj_up (mj_add σ n e) a e' = mj_add σ n e' := by
  rw [h]
  exact up_new
abbrev w_rw (a b : Nat) : va_E := .inr (7, [.ref a, .ref b, .int 0, .int 0])
abbrev w_z (ar : Nat → ClassId) (n : Nat) : va_E := w_ia ar n (fun _ => 0)
/-- 'new Row()' -/
theorem w_new : mj_wp (tb ar) 31 (mj_en (tb ar) 31 [.ref σ.1] (mj_add σ 4 (.inr (7, [.null, .null, .int 0, .int 0])))) Q ↔ Q (.inl none) (mj_add (mj_add (mj_add σ 4 (w_rw (σ.1 + 1) (σ.1 + 2))) 100 (w_z ar 100)) 100 (w_z ar 100)) := by
  rw [w_init (by rw [add_1]; omega) (by rw [add_1]; omega) add_eq]
  simp only [add_1]
  rw [← up_add (σ := mj_add (mj_add σ 4 _) 100 _) (by simp only [add_1]; omega), ← up_add (σ := mj_add σ 4 _) (by simp only [add_1]; omega), up_new]
theorem n_init {a : Nat} (ha : a < σ.1) (h : σ.2.2 a = some (.inr (5, [.null, .int 0, .int 0, .int 0]))) : mj_wp (tb ar) 25 (mj_en (tb ar) 25 [.ref a] σ) Q ↔ Q (.inl none) (mj_up (mj_add (mj_add (mj_add σ 4 (w_rw (σ.1 + 1) (σ.1 + 2))) 100 (w_z ar 100)) 100 (w_z ar 100)) a (.inr (5, [.ref σ.1, .int 0, .int 0, .int 0]))) := by
  rw [ent_25]
  have h1 : ∀ e1 e2 e3 : va_E, (mj_add (mj_add (mj_add σ 4 e1) 100 e2) 100 e3).2.2 a = some (.inr (5, [.null, .int 0, .int 0, .int 0])) := fun e1 e2 e3 => by
    rw [add_ne (by simp only [add_1]; omega), add_ne (by simp only [add_1]; omega), add_ne (by omega)]
    exact h
  simp only [r25_0, r25_1, r25_4, r25_5, r25_8, r25_9, r25_12, r25_15, wo_nx, wo_ret, wo_ite, wo_call, bk_inl, mj_lda, mj_ldi, mj_sti, mj_sta, mj_b2, mj_br1, mj_br2, mj_brn, mj_ir, mj_rr, mj_nx, mj_gf, mj_fld, mj_k2, mj_rc, mj_cls, mj_dup, mj_inc, List.getElem?_cons_zero, List.getElem?_cons_succ, List.length_cons, List.length_nil, List.set_cons_succ, List.set_cons_zero, Nat.reduceAdd, Nat.reduceLT, if_true, if_false, mj_iif, decide_eq_true_eq, List.take_succ_cons, List.take_zero, List.reverse_cons, List.reverse_nil, List.nil_append, List.cons_append, List.drop_succ_cons, List.drop_zero, List.map_cons, List.map_nil, cat_i, cat_r, cat_n, Nat.reduceLeDiff, true_and, and_true, decide_true, Option.toList_some, Option.toList_none, and_self, Nat.le_refl, mj_vr, mj_zr, mj_th, wo_thr, mxl_0, mxl_1, mxl_2, mxl_3, mxl_4, mxl_5, mxl_6, mxl_7, mxl_8, mxl_9, mxl_10, mxl_11, mxl_12, mxl_13, mxl_14, mxl_15, mxl_16, mxl_17, mxl_18, mxl_19, mxl_20, mxl_21, mxl_22, mxl_23, mxl_24, mxl_25, mxl_26, mxl_27, mxl_28, mxl_29, mxl_30, mxl_31, mxl_32, mxl_33, mxl_34, mxl_35, mxl_36, mxl_37, mxl_38, mxl_39, mxl_40, mxl_41, mxl_42, mxl_43, mxl_44, mxl_45, mxl_46, mxl_47, mxl_48, mxl_49, mxl_50, mxl_51, mxl_52, mxl_53, mxl_54, mxl_55, mxl_56, mxl_57, mxl_58, mxl_59, mxl_60, mxl_61, mxl_62, mxl_63, mxl_64, mxl_65, mxl_66, mxl_67, mxl_68, mxl_69, mxl_70, mxl_71, mxl_72, mxl_73, mxl_74, mxl_75, mxl_76, mxl_77, mxl_78, mxl_79, mxl_80, mxl_81, mxl_82, mxl_83, mxl_84, mxl_85, mxl_86, mxl_136, mxl_137, mj_oi, Nat.zero_le, w_new, mj_pf, mj_sf, mj_fit, h1, Option.isSome_some]
/-- 'new Node()' -/
theorem n_new : mj_wp (tb ar) 25 (mj_en (tb ar) 25 [.ref σ.1] (mj_add σ 4 (.inr (5, [.null, .int 0, .int 0, .int 0])))) Q ↔ Q (.inl none) (mj_add (mj_add (mj_add (mj_add σ 4 (.inr (5, [.ref (σ.1 + 1), .int 0, .int 0, .int 0]))) 4 (w_rw (σ.1 + 2) (σ.1 + 3))) 100 (w_z ar 100)) 100 (w_z ar 100)) := by
  rw [n_init (by rw [add_1]; omega) add_eq]
  simp only [add_1]
  rw [← up_add (σ := mj_add (mj_add (mj_add σ 4 _) 4 _) 100 _) (by simp only [add_1]; omega), ← up_add (σ := mj_add (mj_add σ 4 _) 4 _) (by simp only [add_1]; omega), ← up_add (σ := mj_add σ 4 _) (by simp only [add_1]; omega), up_new]
/-- 'new Waiting()' -/
theorem v_new : mj_wp (tb ar) 36 (mj_en (tb ar) 36 [.ref σ.1] (mj_add σ 3 (.inr (8, [.null, .int 0, .int 0])))) Q ↔ Q (.inl none) (mj_add (mj_add σ 3 (.inr (8, [.ref (σ.1 + 1), .int 0, .int 0]))) 25 (w_z ar 25)) := by
  rw [ent_36]
  have c1 : ((25 : Int32)).toNatClampNeg = 25 := by decide
  have c2 : ¬ (25 : Int32) < 0 := by decide
  have h1 : ∀ e1 e2 : va_E, (mj_add (mj_add σ 3 e1) 25 e2).2.2 σ.1 = some e1 := fun e1 e2 => by
    rw [add_ne (by simp only [add_1]; omega)]
    exact add_eq
  simp only [r36_0, r36_1, r36_4, r36_5, r36_7, r36_9, r36_12, wo_nx, wo_ret, wo_ite, wo_call, bk_inl, mj_lda, mj_ldi, mj_sti, mj_sta, mj_b2, mj_br1, mj_br2, mj_brn, mj_ir, mj_rr, mj_nx, mj_gf, mj_fld, mj_k2, mj_rc, mj_cls, mj_dup, mj_inc, List.getElem?_cons_zero, List.getElem?_cons_succ, List.length_cons, List.length_nil, List.set_cons_succ, List.set_cons_zero, Nat.reduceAdd, Nat.reduceLT, if_true, if_false, mj_iif, decide_eq_true_eq, List.take_succ_cons, List.take_zero, List.reverse_cons, List.reverse_nil, List.nil_append, List.cons_append, List.drop_succ_cons, List.drop_zero, List.map_cons, List.map_nil, cat_i, cat_r, cat_n, Nat.reduceLeDiff, true_and, and_true, decide_true, Option.toList_some, Option.toList_none, and_self, Nat.le_refl, mj_vr, mj_zr, mj_th, wo_thr, mxl_0, mxl_1, mxl_2, mxl_3, mxl_4, mxl_5, mxl_6, mxl_7, mxl_8, mxl_9, mxl_10, mxl_11, mxl_12, mxl_13, mxl_14, mxl_15, mxl_16, mxl_17, mxl_18, mxl_19, mxl_20, mxl_21, mxl_22, mxl_23, mxl_24, mxl_25, mxl_26, mxl_27, mxl_28, mxl_29, mxl_30, mxl_31, mxl_32, mxl_33, mxl_34, mxl_35, mxl_36, mxl_37, mxl_38, mxl_39, mxl_40, mxl_41, mxl_42, mxl_43, mxl_44, mxl_45, mxl_46, mxl_47, mxl_48, mxl_49, mxl_50, mxl_51, mxl_52, mxl_53, mxl_54, mxl_55, mxl_56, mxl_57, mxl_58, mxl_59, mxl_60, mxl_61, mxl_62, mxl_63, mxl_64, mxl_65, mxl_66, mxl_67, mxl_68, mxl_69, mxl_70, mxl_71, mxl_72, mxl_73, mxl_74, mxl_75, mxl_76, mxl_77, mxl_78, mxl_79, mxl_80, mxl_81, mxl_82, mxl_83, mxl_84, mxl_85, mxl_86, mxl_136, mxl_137, mj_oi, mj_newa, Nat.zero_le, mj_pf, mj_sf, mj_fit, h1, add_1, Option.isSome_some, c1, c2, not_false_eq_true, ar_0]
  rw [← up_add (σ := mj_add σ 3 _) (by simp only [add_1]; omega), up_new]
/-- 'new Queue()' -/
theorem qu_new : mj_wp (tb ar) 26 (mj_en (tb ar) 26 [.ref σ.1] (mj_add σ 3 (.inr (6, [.null, .int 0, .int 0])))) Q ↔ Q (.inl none) (mj_add (mj_add σ 3 (.inr (6, [.ref (σ.1 + 1), .int 0, .int 0]))) 300 (cs_rf ar 6 300 (fun _ => none))) := by
  rw [ent_26]
  have c1 : ((300 : Int32)).toNatClampNeg = 300 := by decide
  have c2 : ¬ (300 : Int32) < 0 := by decide
  have a4 : mj_al (tb ar) (mj_o (tb ar) 26) 9 = some 4 := rfl
  have a5 : (4 : Nat) ∈ mj_ak (tb ar) := (show 4 ∈ ([3, 4, 5, 7] : List Nat) from by decide)
  have h1 : ∀ e1 e2 : va_E, (mj_add (mj_add σ 3 e1) 300 e2).2.2 σ.1 = some e1 := fun e1 e2 => by
    rw [add_ne (by simp only [add_1]; omega)]
    exact add_eq
  simp only [r26_0, r26_1, r26_4, r26_5, r26_8, r26_11, r26_14, wo_nx, wo_ret, wo_ite, wo_call, bk_inl, mj_lda, mj_ldi, mj_sti, mj_sta, mj_b2, mj_br1, mj_br2, mj_brn, mj_ir, mj_rr, mj_nx, mj_gf, mj_fld, mj_k2, mj_rc, mj_cls, mj_dup, mj_inc, List.getElem?_cons_zero, List.getElem?_cons_succ, List.length_cons, List.length_nil, List.set_cons_succ, List.set_cons_zero, Nat.reduceAdd, Nat.reduceLT, if_true, if_false, mj_iif, decide_eq_true_eq, List.take_succ_cons, List.take_zero, List.reverse_cons, List.reverse_nil, List.nil_append, List.cons_append, List.drop_succ_cons, List.drop_zero, List.map_cons, List.map_nil, cat_i, cat_r, cat_n, Nat.reduceLeDiff, true_and, and_true, decide_true, Option.toList_some, Option.toList_none, and_self, Nat.le_refl, mj_vr, mj_zr, mj_th, wo_thr, mxl_0, mxl_1, mxl_2, mxl_3, mxl_4, mxl_5, mxl_6, mxl_7, mxl_8, mxl_9, mxl_10, mxl_11, mxl_12, mxl_13, mxl_14, mxl_15, mxl_16, mxl_17, mxl_18, mxl_19, mxl_20, mxl_21, mxl_22, mxl_23, mxl_24, mxl_25, mxl_26, mxl_27, mxl_28, mxl_29, mxl_30, mxl_31, mxl_32, mxl_33, mxl_34, mxl_35, mxl_36, mxl_37, mxl_38, mxl_39, mxl_40, mxl_41, mxl_42, mxl_43, mxl_44, mxl_45, mxl_46, mxl_47, mxl_48, mxl_49, mxl_50, mxl_51, mxl_52, mxl_53, mxl_54, mxl_55, mxl_56, mxl_57, mxl_58, mxl_59, mxl_60, mxl_61, mxl_62, mxl_63, mxl_64, mxl_65, mxl_66, mxl_67, mxl_68, mxl_69, mxl_70, mxl_71, mxl_72, mxl_73, mxl_74, mxl_75, mxl_76, mxl_77, mxl_78, mxl_79, mxl_80, mxl_81, mxl_82, mxl_83, mxl_84, mxl_85, mxl_86, mxl_136, mxl_137, mj_oi, mj_anew, a4, a5, Nat.zero_le, mj_pf, mj_sf, mj_fit, h1, add_1, Option.isSome_some, c1, c2, not_false_eq_true, ar_6]
  rw [← up_add (σ := mj_add σ 3 _) (by simp only [add_1]; omega), up_new]
  rfl
/-- 'new Mail()' -/
theorem ml_new : mj_wp (tb ar) 16 (mj_en (tb ar) 16 [.ref σ.1] (mj_add σ 5 (.inr (2, [.null, .null, .null, .int 0, .int 0])))) Q ↔ Q (.inl none) (mj_add (mj_add (mj_add (mj_add (mj_add (mj_add σ 5 (.inr (2, [.ref (σ.1 + 1), .ref (σ.1 + 3), .ref (σ.1 + 5), .int 0, .int 0]))) 3 (.inr (6, [.ref (σ.1 + 2), .int 0, .int 0]))) 300 (cs_rf ar 6 300 (fun _ => none))) 3 (.inr (6, [.ref (σ.1 + 4), .int 0, .int 0]))) 300 (cs_rf ar 6 300 (fun _ => none))) 601 (cs_rf ar 6 601 (fun _ => none))) := by
  rw [ent_16]
  have c1 : ((601 : Int32)).toNatClampNeg = 601 := by decide
  have c2 : ¬ (601 : Int32) < 0 := by decide
  have a4 : mj_al (tb ar) (mj_o (tb ar) 16) 21 = some 4 := rfl
  have a5 : (4 : Nat) ∈ mj_ak (tb ar) := (show 4 ∈ ([3, 4, 5, 7] : List Nat) from by decide)
  have hq1 : ∀ (Q : (Option Value ⊕ String) → mj_S → Prop) (e : va_E), _ := fun Q e => qu_new (ar := ar) (Q := Q) (σ := mj_add σ 5 e)
  simp only [add_1] at hq1
  have h1 : ∀ e1 e2 e3 : va_E, (mj_add (mj_add (mj_add σ 5 e1) 3 e2) 300 e3).2.2 σ.1 = some e1 := fun e1 e2 e3 => by
    rw [add_ne (by simp only [add_1]; omega), add_ne (by simp only [add_1]; omega)]
    exact add_eq
  have u1 : ∀ e1 e2 e3 e4 : va_E, mj_up (mj_add (mj_add (mj_add σ 5 e1) 3 e2) 300 e3) σ.1 e4 = mj_add (mj_add (mj_add σ 5 e4) 3 e2) 300 e3 := fun e1 e2 e3 e4 => by
    rw [← up_add (σ := mj_add (mj_add σ 5 _) 3 _) (by simp only [add_1]; omega), ← up_add (σ := mj_add σ 5 _) (by simp only [add_1]; omega), up_new]
  have hq2 : ∀ (Q : (Option Value ⊕ String) → mj_S → Prop) (e1 e2 e3 : va_E), _ := fun Q e1 e2 e3 => qu_new (ar := ar) (Q := Q) (σ := mj_add (mj_add (mj_add σ 5 e1) 3 e2) 300 e3)
  simp only [add_1] at hq2
  have h2 : ∀ e1 e2 e3 e4 e5 : va_E, (mj_add (mj_add (mj_add (mj_add (mj_add σ 5 e1) 3 e2) 300 e3) 3 e4) 300 e5).2.2 σ.1 = some e1 := fun e1 e2 e3 e4 e5 => by
    rw [add_ne (by simp only [add_1]; omega), add_ne (by simp only [add_1]; omega)]
    exact h1 _ _ _
  have u2 : ∀ e1 e2 e3 e4 e5 e6 : va_E, mj_up (mj_add (mj_add (mj_add (mj_add (mj_add σ 5 e1) 3 e2) 300 e3) 3 e4) 300 e5) σ.1 e6 = mj_add (mj_add (mj_add (mj_add (mj_add σ 5 e6) 3 e2) 300 e3) 3 e4) 300 e5 := fun e1 e2 e3 e4 e5 e6 => by
    rw [← up_add (σ := mj_add (mj_add (mj_add (mj_add σ 5 _) 3 _) 300 _) 3 _) (by simp only [add_1]; omega), ← up_add (σ := mj_add (mj_add (mj_add σ 5 _) 3 _) 300 _) (by simp only [add_1]; omega), u1]
  have h3 : ∀ e1 e2 e3 e4 e5 e6 : va_E, (mj_add (mj_add (mj_add (mj_add (mj_add (mj_add σ 5 e1) 3 e2) 300 e3) 3 e4) 300 e5) 601 e6).2.2 σ.1 = some e1 := fun e1 e2 e3 e4 e5 e6 => by
    rw [add_ne (by simp only [add_1]; omega)]
    exact h2 _ _ _ _ _
  have u3 : ∀ e1 e2 e3 e4 e5 e6 e7 : va_E, mj_up (mj_add (mj_add (mj_add (mj_add (mj_add (mj_add σ 5 e1) 3 e2) 300 e3) 3 e4) 300 e5) 601 e6) σ.1 e7 = mj_add (mj_add (mj_add (mj_add (mj_add (mj_add σ 5 e7) 3 e2) 300 e3) 3 e4) 300 e5) 601 e6 := fun e1 e2 e3 e4 e5 e6 e7 => by
    rw [← up_add (σ := mj_add (mj_add (mj_add (mj_add (mj_add σ 5 _) 3 _) 300 _) 3 _) 300 _) (by simp only [add_1]; omega), u2]
  simp only [r16_0, r16_1, r16_4, r16_5, r16_8, r16_9, wo_nx, wo_ret, wo_ite, wo_call, bk_inl, mj_lda, mj_ldi, mj_sti, mj_sta, mj_b2, mj_br1, mj_br2, mj_brn, mj_ir, mj_rr, mj_nx, mj_gf, mj_fld, mj_k2, mj_rc, mj_cls, mj_dup, mj_inc, List.getElem?_cons_zero, List.getElem?_cons_succ, List.length_cons, List.length_nil, List.set_cons_succ, List.set_cons_zero, Nat.reduceAdd, Nat.reduceLT, if_true, if_false, mj_iif, decide_eq_true_eq, List.take_succ_cons, List.take_zero, List.reverse_cons, List.reverse_nil, List.nil_append, List.cons_append, List.drop_succ_cons, List.drop_zero, List.map_cons, List.map_nil, cat_i, cat_r, cat_n, Nat.reduceLeDiff, true_and, and_true, decide_true, Option.toList_some, Option.toList_none, and_self, Nat.le_refl, mj_vr, mj_zr, mj_th, wo_thr, mxl_0, mxl_1, mxl_2, mxl_3, mxl_4, mxl_5, mxl_6, mxl_7, mxl_8, mxl_9, mxl_10, mxl_11, mxl_12, mxl_13, mxl_14, mxl_15, mxl_16, mxl_17, mxl_18, mxl_19, mxl_20, mxl_21, mxl_22, mxl_23, mxl_24, mxl_25, mxl_26, mxl_27, mxl_28, mxl_29, mxl_30, mxl_31, mxl_32, mxl_33, mxl_34, mxl_35, mxl_36, mxl_37, mxl_38, mxl_39, mxl_40, mxl_41, mxl_42, mxl_43, mxl_44, mxl_45, mxl_46, mxl_47, mxl_48, mxl_49, mxl_50, mxl_51, mxl_52, mxl_53, mxl_54, mxl_55, mxl_56, mxl_57, mxl_58, mxl_59, mxl_60, mxl_61, mxl_62, mxl_63, mxl_64, mxl_65, mxl_66, mxl_67, mxl_68, mxl_69, mxl_70, mxl_71, mxl_72, mxl_73, mxl_74, mxl_75, mxl_76, mxl_77, mxl_78, mxl_79, mxl_80, mxl_81, mxl_82, mxl_83, mxl_84, mxl_85, mxl_86, mxl_136, mxl_137, mj_oi, Nat.zero_le, add_1, hq1]
  simp only [r16_12, r16_15, r16_16, r16_19, r16_20, wo_nx, wo_ret, wo_ite, wo_call, bk_inl, mj_lda, mj_ldi, mj_sti, mj_sta, mj_b2, mj_br1, mj_br2, mj_brn, mj_ir, mj_rr, mj_nx, mj_gf, mj_fld, mj_k2, mj_rc, mj_cls, mj_dup, mj_inc, List.getElem?_cons_zero, List.getElem?_cons_succ, List.length_cons, List.length_nil, List.set_cons_succ, List.set_cons_zero, Nat.reduceAdd, Nat.reduceLT, if_true, if_false, mj_iif, decide_eq_true_eq, List.take_succ_cons, List.take_zero, List.reverse_cons, List.reverse_nil, List.nil_append, List.cons_append, List.drop_succ_cons, List.drop_zero, List.map_cons, List.map_nil, cat_i, cat_r, cat_n, Nat.reduceLeDiff, true_and, and_true, decide_true, Option.toList_some, Option.toList_none, and_self, Nat.le_refl, mj_vr, mj_zr, mj_th, wo_thr, mxl_0, mxl_1, mxl_2, mxl_3, mxl_4, mxl_5, mxl_6, mxl_7, mxl_8, mxl_9, mxl_10, mxl_11, mxl_12, mxl_13, mxl_14, mxl_15, mxl_16, mxl_17, mxl_18, mxl_19, mxl_20, mxl_21, mxl_22, mxl_23, mxl_24, mxl_25, mxl_26, mxl_27, mxl_28, mxl_29, mxl_30, mxl_31, mxl_32, mxl_33, mxl_34, mxl_35, mxl_36, mxl_37, mxl_38, mxl_39, mxl_40, mxl_41, mxl_42, mxl_43, mxl_44, mxl_45, mxl_46, mxl_47, mxl_48, mxl_49, mxl_50, mxl_51, mxl_52, mxl_53, mxl_54, mxl_55, mxl_56, mxl_57, mxl_58, mxl_59, mxl_60, mxl_61, mxl_62, mxl_63, mxl_64, mxl_65, mxl_66, mxl_67, mxl_68, mxl_69, mxl_70, mxl_71, mxl_72, mxl_73, mxl_74, mxl_75, mxl_76, mxl_77, mxl_78, mxl_79, mxl_80, mxl_81, mxl_82, mxl_83, mxl_84, mxl_85, mxl_86, mxl_136, mxl_137, mj_pf, mj_sf, mj_fit, h1, u1, add_1, Option.isSome_some, Nat.zero_le, hq2]
  simp only [r16_23, r16_26, r16_27, r16_30, wo_nx, wo_ret, wo_ite, wo_call, bk_inl, mj_lda, mj_ldi, mj_sti, mj_sta, mj_b2, mj_br1, mj_br2, mj_brn, mj_ir, mj_rr, mj_nx, mj_gf, mj_fld, mj_k2, mj_rc, mj_cls, mj_dup, mj_inc, List.getElem?_cons_zero, List.getElem?_cons_succ, List.length_cons, List.length_nil, List.set_cons_succ, List.set_cons_zero, Nat.reduceAdd, Nat.reduceLT, if_true, if_false, mj_iif, decide_eq_true_eq, List.take_succ_cons, List.take_zero, List.reverse_cons, List.reverse_nil, List.nil_append, List.cons_append, List.drop_succ_cons, List.drop_zero, List.map_cons, List.map_nil, cat_i, cat_r, cat_n, Nat.reduceLeDiff, true_and, and_true, decide_true, Option.toList_some, Option.toList_none, and_self, Nat.le_refl, mj_vr, mj_zr, mj_th, wo_thr, mxl_0, mxl_1, mxl_2, mxl_3, mxl_4, mxl_5, mxl_6, mxl_7, mxl_8, mxl_9, mxl_10, mxl_11, mxl_12, mxl_13, mxl_14, mxl_15, mxl_16, mxl_17, mxl_18, mxl_19, mxl_20, mxl_21, mxl_22, mxl_23, mxl_24, mxl_25, mxl_26, mxl_27, mxl_28, mxl_29, mxl_30, mxl_31, mxl_32, mxl_33, mxl_34, mxl_35, mxl_36, mxl_37, mxl_38, mxl_39, mxl_40, mxl_41, mxl_42, mxl_43, mxl_44, mxl_45, mxl_46, mxl_47, mxl_48, mxl_49, mxl_50, mxl_51, mxl_52, mxl_53, mxl_54, mxl_55, mxl_56, mxl_57, mxl_58, mxl_59, mxl_60, mxl_61, mxl_62, mxl_63, mxl_64, mxl_65, mxl_66, mxl_67, mxl_68, mxl_69, mxl_70, mxl_71, mxl_72, mxl_73, mxl_74, mxl_75, mxl_76, mxl_77, mxl_78, mxl_79, mxl_80, mxl_81, mxl_82, mxl_83, mxl_84, mxl_85, mxl_86, mxl_136, mxl_137, mj_anew, a4, a5, mj_pf, mj_sf, mj_fit, h2, u2, add_1, Option.isSome_some, c1, c2, not_false_eq_true, Nat.zero_le, ar_6]
  simp only [r16_33, r16_36, wo_nx, wo_ret, wo_ite, wo_call, bk_inl, mj_lda, mj_ldi, mj_sti, mj_sta, mj_b2, mj_br1, mj_br2, mj_brn, mj_ir, mj_rr, mj_nx, mj_gf, mj_fld, mj_k2, mj_rc, mj_cls, mj_dup, mj_inc, List.getElem?_cons_zero, List.getElem?_cons_succ, List.length_cons, List.length_nil, List.set_cons_succ, List.set_cons_zero, Nat.reduceAdd, Nat.reduceLT, if_true, if_false, mj_iif, decide_eq_true_eq, List.take_succ_cons, List.take_zero, List.reverse_cons, List.reverse_nil, List.nil_append, List.cons_append, List.drop_succ_cons, List.drop_zero, List.map_cons, List.map_nil, cat_i, cat_r, cat_n, Nat.reduceLeDiff, true_and, and_true, decide_true, Option.toList_some, Option.toList_none, and_self, Nat.le_refl, mj_vr, mj_zr, mj_th, wo_thr, mxl_0, mxl_1, mxl_2, mxl_3, mxl_4, mxl_5, mxl_6, mxl_7, mxl_8, mxl_9, mxl_10, mxl_11, mxl_12, mxl_13, mxl_14, mxl_15, mxl_16, mxl_17, mxl_18, mxl_19, mxl_20, mxl_21, mxl_22, mxl_23, mxl_24, mxl_25, mxl_26, mxl_27, mxl_28, mxl_29, mxl_30, mxl_31, mxl_32, mxl_33, mxl_34, mxl_35, mxl_36, mxl_37, mxl_38, mxl_39, mxl_40, mxl_41, mxl_42, mxl_43, mxl_44, mxl_45, mxl_46, mxl_47, mxl_48, mxl_49, mxl_50, mxl_51, mxl_52, mxl_53, mxl_54, mxl_55, mxl_56, mxl_57, mxl_58, mxl_59, mxl_60, mxl_61, mxl_62, mxl_63, mxl_64, mxl_65, mxl_66, mxl_67, mxl_68, mxl_69, mxl_70, mxl_71, mxl_72, mxl_73, mxl_74, mxl_75, mxl_76, mxl_77, mxl_78, mxl_79, mxl_80, mxl_81, mxl_82, mxl_83, mxl_84, mxl_85, mxl_86, mxl_136, mxl_137, mj_pf, mj_sf, mj_fit, h3, u3, add_1, Option.isSome_some]
  rfl
/-- the MEMBERS of the first slots -/
def lg_mb (M : Int32) (k : Nat) : Nat → Int32 := fun j => if j < k then M else 0
theorem lg_mb_s {M : Int32} {k : Nat} : upd (lg_mb M k) k M = lg_mb M (k + 1) := by
  funext j
  unfold upd lg_mb
  by_cases hj : j = k
  · rw [if_pos hj, if_pos (by omega)]
  · rw [if_neg hj]
    by_cases h2 : j < k
    · rw [if_pos h2, if_pos (by omega)]
    · rw [if_neg h2, if_neg (by omega)]
theorem lg_loop {a b : Nat} {x : Int32} {v0 v1 : Value} {fs : List Value} (hab : a ≠ b) (ha : σ.2.2 a = some (.inr (1, v0 :: v1 :: .ref b :: fs))) : ∀ (j k : Nat), k + j = 4 →
    (mj_wp (tb ar) 9 (35, [some (.ref a), some (.int x), some (.int (nI k))], [], mj_up σ b (w_ia ar 104 (lg_mb ((1 <<< (x &&& 31)) - 1) k))) Q ↔ Q (.inl none) (mj_up σ b (w_ia ar 104 (lg_mb ((1 <<< (x &&& 31)) - 1) 4))))
  | 0, k, h => by
    have h' : k = 4 := by omega
    subst h'
    have c1 : (4 : Int32) ≤ nI 4 := by decide
    simp only [r9_35, r9_36, r9_37, r9_57, wo_nx, wo_ret, wo_ite, wo_call, bk_inl, mj_lda, mj_ldi, mj_sti, mj_sta, mj_b2, mj_br1, mj_br2, mj_brn, mj_ir, mj_rr, mj_nx, mj_gf, mj_fld, mj_k2, mj_rc, mj_cls, mj_dup, mj_inc, List.getElem?_cons_zero, List.getElem?_cons_succ, List.length_cons, List.length_nil, List.set_cons_succ, List.set_cons_zero, Nat.reduceAdd, Nat.reduceLT, if_true, if_false, mj_iif, decide_eq_true_eq, List.take_succ_cons, List.take_zero, List.reverse_cons, List.reverse_nil, List.nil_append, List.cons_append, List.drop_succ_cons, List.drop_zero, List.map_cons, List.map_nil, cat_i, cat_r, cat_n, Nat.reduceLeDiff, true_and, and_true, decide_true, Option.toList_some, Option.toList_none, and_self, Nat.le_refl, mj_vr, mj_zr, mj_th, wo_thr, mxl_0, mxl_1, mxl_2, mxl_3, mxl_4, mxl_5, mxl_6, mxl_7, mxl_8, mxl_9, mxl_10, mxl_11, mxl_12, mxl_13, mxl_14, mxl_15, mxl_16, mxl_17, mxl_18, mxl_19, mxl_20, mxl_21, mxl_22, mxl_23, mxl_24, mxl_25, mxl_26, mxl_27, mxl_28, mxl_29, mxl_30, mxl_31, mxl_32, mxl_33, mxl_34, mxl_35, mxl_36, mxl_37, mxl_38, mxl_39, mxl_40, mxl_41, mxl_42, mxl_43, mxl_44, mxl_45, mxl_46, mxl_47, mxl_48, mxl_49, mxl_50, mxl_51, mxl_52, mxl_53, mxl_54, mxl_55, mxl_56, mxl_57, mxl_58, mxl_59, mxl_60, mxl_61, mxl_62, mxl_63, mxl_64, mxl_65, mxl_66, mxl_67, mxl_68, mxl_69, mxl_70, mxl_71, mxl_72, mxl_73, mxl_74, mxl_75, mxl_76, mxl_77, mxl_78, mxl_79, mxl_80, mxl_81, mxl_82, mxl_83, mxl_84, mxl_85, mxl_86, mxl_136, mxl_137, c1]
  | j + 1, k, h => by
    have a1 : ∀ e, (mj_up σ b e).2.2 a = σ.2.2 a := fun e => up_ne hab
    have c1 : ¬ (4 : Int32) ≤ nI k := by
      have e : (4 : Int32) = nI 4 := rfl
      rw [e]; exact nI_ge (by omega) (by decide)
    have ih := lg_loop (x := x) hab ha j (k + 1) (by omega)
    have hix' : mj_ix (nI k) 104 = true := ix_of (by omega) (by decide)
    have hcl' : (nI k).toNatClampNeg = k := nI_clamp (by omega)
    refine Iff.trans ?_ ih
    rw [r9_35]
    simp only [r9_36, r9_37, r9_40, r9_41, r9_44, r9_45, r9_46, r9_47, r9_48, r9_49, r9_50, r9_51, r9_54, wo_nx, wo_ret, wo_ite, wo_call, bk_inl, mj_lda, mj_ldi, mj_sti, mj_sta, mj_b2, mj_br1, mj_br2, mj_brn, mj_ir, mj_rr, mj_nx, mj_gf, mj_fld, mj_k2, mj_rc, mj_cls, mj_dup, mj_inc, List.getElem?_cons_zero, List.getElem?_cons_succ, List.length_cons, List.length_nil, List.set_cons_succ, List.set_cons_zero, Nat.reduceAdd, Nat.reduceLT, if_true, if_false, mj_iif, decide_eq_true_eq, List.take_succ_cons, List.take_zero, List.reverse_cons, List.reverse_nil, List.nil_append, List.cons_append, List.drop_succ_cons, List.drop_zero, List.map_cons, List.map_nil, cat_i, cat_r, cat_n, Nat.reduceLeDiff, true_and, and_true, decide_true, Option.toList_some, Option.toList_none, and_self, Nat.le_refl, mj_vr, mj_zr, mj_th, wo_thr, mxl_0, mxl_1, mxl_2, mxl_3, mxl_4, mxl_5, mxl_6, mxl_7, mxl_8, mxl_9, mxl_10, mxl_11, mxl_12, mxl_13, mxl_14, mxl_15, mxl_16, mxl_17, mxl_18, mxl_19, mxl_20, mxl_21, mxl_22, mxl_23, mxl_24, mxl_25, mxl_26, mxl_27, mxl_28, mxl_29, mxl_30, mxl_31, mxl_32, mxl_33, mxl_34, mxl_35, mxl_36, mxl_37, mxl_38, mxl_39, mxl_40, mxl_41, mxl_42, mxl_43, mxl_44, mxl_45, mxl_46, mxl_47, mxl_48, mxl_49, mxl_50, mxl_51, mxl_52, mxl_53, mxl_54, mxl_55, mxl_56, mxl_57, mxl_58, mxl_59, mxl_60, mxl_61, mxl_62, mxl_63, mxl_64, mxl_65, mxl_66, mxl_67, mxl_68, mxl_69, mxl_70, mxl_71, mxl_72, mxl_73, mxl_74, mxl_75, mxl_76, mxl_77, mxl_78, mxl_79, mxl_80, mxl_81, mxl_82, mxl_83, mxl_84, mxl_85, mxl_86, mxl_136, mxl_137, c1, a1, ha, up_eq, up_up, nI_1, mj_is, mj_ia, mj_sa, ar_0, hix', hcl', lg_mb_s]
/-- 'new Log(m)' -/
theorem lg_new {x : Int32} : mj_wp (tb ar) 9 (mj_en (tb ar) 9 [.ref σ.1, .int x] (mj_add σ 8 (.inr (1, [.null, .null, .null, .int 0, .int 0, .int 0, .int 0, .int 0])))) Q ↔ Q (.inl none) (mj_add (mj_add (mj_add (mj_add σ 8 (.inr (1, [.ref (σ.1 + 1), .ref (σ.1 + 2), .ref (σ.1 + 3), .int 0, .int 0, .int 0, .int 0, .int (-1)]))) 100 (w_ba ar 100 (fun _ => 0))) 100 (w_z ar 100)) 104 (w_ia ar 104 (lg_mb ((1 <<< (x &&& 31)) - 1) 4))) := by
  rw [ent_9]
  have c1 : ((100 : Int32)).toNatClampNeg = 100 := by decide
  have c2 : ¬ (100 : Int32) < 0 := by decide
  have c3 : ((104 : Int32)).toNatClampNeg = 104 := by decide
  have c4 : ¬ (104 : Int32) < 0 := by decide
  have h1 : ∀ e1 e2 : va_E, (mj_add (mj_add σ 8 e1) 100 e2).2.2 σ.1 = some e1 := fun e1 e2 => by
    rw [add_ne (by simp only [add_1]; omega)]
    exact add_eq
  have u1 : ∀ e1 e2 e3 : va_E, mj_up (mj_add (mj_add σ 8 e1) 100 e2) σ.1 e3 = mj_add (mj_add σ 8 e3) 100 e2 := fun e1 e2 e3 => by
    rw [← up_add (σ := mj_add σ 8 _) (by simp only [add_1]; omega), up_new]
  have h2 : ∀ e1 e2 e3 : va_E, (mj_add (mj_add (mj_add σ 8 e1) 100 e2) 100 e3).2.2 σ.1 = some e1 := fun e1 e2 e3 => by
    rw [add_ne (by simp only [add_1]; omega)]
    exact h1 _ _
  have u2 : ∀ e1 e2 e3 e4 : va_E, mj_up (mj_add (mj_add (mj_add σ 8 e1) 100 e2) 100 e3) σ.1 e4 = mj_add (mj_add (mj_add σ 8 e4) 100 e2) 100 e3 := fun e1 e2 e3 e4 => by
    rw [← up_add (σ := mj_add (mj_add σ 8 _) 100 _) (by simp only [add_1]; omega), u1]
  have h3 : ∀ e1 e2 e3 e4 : va_E, (mj_add (mj_add (mj_add (mj_add σ 8 e1) 100 e2) 100 e3) 104 e4).2.2 σ.1 = some e1 := fun e1 e2 e3 e4 => by
    rw [add_ne (by simp only [add_1]; omega)]
    exact h2 _ _ _
  have u3 : ∀ e1 e2 e3 e4 e5 : va_E, mj_up (mj_add (mj_add (mj_add (mj_add σ 8 e1) 100 e2) 100 e3) 104 e4) σ.1 e5 = mj_add (mj_add (mj_add (mj_add σ 8 e5) 100 e2) 100 e3) 104 e4 := fun e1 e2 e3 e4 e5 => by
    rw [← up_add (σ := mj_add (mj_add (mj_add σ 8 _) 100 _) 100 _) (by simp only [add_1]; omega), u2]
  have hl := lg_loop (ar := ar) (Q := Q) (x := x) (a := σ.1) (b := σ.1 + 3) (v0 := .ref (σ.1 + 1)) (v1 := .ref (σ.1 + 2)) (fs := [.int 0, .int 0, .int 0, .int 0, .int (-1)]) (σ := mj_add (mj_add (mj_add (mj_add σ 8 (.inr (1, [.ref (σ.1 + 1), .ref (σ.1 + 2), .ref (σ.1 + 3), .int 0, .int 0, .int 0, .int 0, .int (-1)]))) 100 (w_ba ar 100 (fun _ => 0))) 100 (w_z ar 100)) 104 (w_z ar 104)) (by omega) (h3 _ _ _ _) 4 0 (by omega)
  have hz : lg_mb ((1 <<< (x &&& 31)) - 1) 0 = fun _ => 0 := by
    funext j
    exact if_neg (by omega)
  rw [hz, nI_0, up_self (show (mj_add (mj_add (mj_add (mj_add σ 8 _) 100 _) 100 _) 104 (w_z ar 104)).2.2 (σ.1 + 3) = some _ from add_eq), up_new' (show σ.1 + 3 = _ from rfl)] at hl
  refine Iff.trans ?_ hl
  simp only [r9_0, r9_1, r9_4, r9_5, r9_7, r9_9, r9_12, r9_13, r9_15, r9_17, r9_20, r9_21, r9_23, r9_25, r9_28, r9_29, r9_30, r9_33, r9_34, wo_nx, wo_ret, wo_ite, wo_call, bk_inl, mj_lda, mj_ldi, mj_sti, mj_sta, mj_b2, mj_br1, mj_br2, mj_brn, mj_ir, mj_rr, mj_nx, mj_gf, mj_fld, mj_k2, mj_rc, mj_cls, mj_dup, mj_inc, List.getElem?_cons_zero, List.getElem?_cons_succ, List.length_cons, List.length_nil, List.set_cons_succ, List.set_cons_zero, Nat.reduceAdd, Nat.reduceLT, if_true, if_false, mj_iif, decide_eq_true_eq, List.take_succ_cons, List.take_zero, List.reverse_cons, List.reverse_nil, List.nil_append, List.cons_append, List.drop_succ_cons, List.drop_zero, List.map_cons, List.map_nil, cat_i, cat_r, cat_n, Nat.reduceLeDiff, true_and, and_true, decide_true, Option.toList_some, Option.toList_none, and_self, Nat.le_refl, mj_vr, mj_zr, mj_th, wo_thr, mxl_0, mxl_1, mxl_2, mxl_3, mxl_4, mxl_5, mxl_6, mxl_7, mxl_8, mxl_9, mxl_10, mxl_11, mxl_12, mxl_13, mxl_14, mxl_15, mxl_16, mxl_17, mxl_18, mxl_19, mxl_20, mxl_21, mxl_22, mxl_23, mxl_24, mxl_25, mxl_26, mxl_27, mxl_28, mxl_29, mxl_30, mxl_31, mxl_32, mxl_33, mxl_34, mxl_35, mxl_36, mxl_37, mxl_38, mxl_39, mxl_40, mxl_41, mxl_42, mxl_43, mxl_44, mxl_45, mxl_46, mxl_47, mxl_48, mxl_49, mxl_50, mxl_51, mxl_52, mxl_53, mxl_54, mxl_55, mxl_56, mxl_57, mxl_58, mxl_59, mxl_60, mxl_61, mxl_62, mxl_63, mxl_64, mxl_65, mxl_66, mxl_67, mxl_68, mxl_69, mxl_70, mxl_71, mxl_72, mxl_73, mxl_74, mxl_75, mxl_76, mxl_77, mxl_78, mxl_79, mxl_80, mxl_81, mxl_82, mxl_83, mxl_84, mxl_85, mxl_86, mxl_136, mxl_137, mj_oi, mj_newa, Nat.zero_le, mj_pf, mj_sf, mj_fit, h1, u1, h2, u2, h3, u3, add_1, Option.isSome_some, c1, c2, c3, c4, not_false_eq_true, ar_0, ar_1, Nat.reduceAdd, Nat.add_assoc]
end CN
