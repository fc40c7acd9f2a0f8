section CP
variable {ar : Nat → ClassId} {σ : mj_S} {e : va_E} {Q : (Option Value ⊕ String) → mj_S → Prop}
/-- j Rows are made -/
def ld_ad (ar : Nat → ClassId) (σ : mj_S) : Nat → mj_S
  | 0 => σ
  | j + 1 => mj_add (mj_add (mj_add (ld_ad ar σ j) 4 (w_rw (σ.1 + 3 * j + 1) (σ.1 + 3 * j + 2))) 100 (w_z ar 100)) 100 (w_z ar 100)
theorem ld_1 : ∀ j, (ld_ad ar σ j).1 = σ.1 + 3 * j
  | 0 => rfl
  | j + 1 => by
    show (ld_ad ar σ j).1 + 1 + 1 + 1 = _
    rw [ld_1 j]
    omega
theorem ld_21 : ∀ j, (ld_ad ar σ j).2.1 = σ.2.1 + 204 * j
  | 0 => rfl
  | j + 1 => by
    show (ld_ad ar σ j).2.1 + 4 + 100 + 100 = _
    rw [ld_21 j]
    omega
theorem ld_old {a : Nat} (h : a < σ.1) : ∀ j, (ld_ad ar σ j).2.2 a = σ.2.2 a
  | 0 => rfl
  | j + 1 => by
    show (mj_add (mj_add (mj_add (ld_ad ar σ j) 4 _) 100 _) 100 _).2.2 a = _
    have h1 := ld_1 (ar := ar) (σ := σ) j
    rw [add_ne (by simp only [add_1]; omega), add_ne (by simp only [add_1]; omega), add_ne (by omega)]
    exact ld_old h j
def ld_pr (b j : Nat) : Nat → Option Nat := fun i => if i < j then some (b + 3 * i) else none
theorem ld_pr_s {b k : Nat} : va_up (ld_pr b k) k (some (b + 3 * k)) = ld_pr b (k + 1) := by
  funext j
  unfold va_up ld_pr
  by_cases hj : j = k
  · rw [if_pos hj, if_pos (by omega), hj]
  · rw [if_neg hj]
    by_cases h2 : j < k
    · rw [if_pos h2, if_pos (by omega)]
    · rw [if_neg h2, if_neg (by omega)]
theorem ld_loop {a p n : Nat} {fs : List Value} (hn : n ≤ 9) (hap : a ≠ p) (ha' : a < σ.1) (hp : p < σ.1) (ha : σ.2.2 a = some (.inr (0, .ref p :: fs))) : ∀ (j k : Nat), k + j = n →
    (mj_wp (tb ar) 0 (53, [some (.ref a), some (.int (nI n)), some (.int (nI k))], [], mj_up (ld_ad ar σ k) p (cs_rf ar 9 n (ld_pr σ.1 k))) Q ↔ Q (.inl none) (mj_up (ld_ad ar σ n) p (cs_rf ar 9 n (ld_pr σ.1 n))))
  | 0, k, h => by
    have h' : k = n := by omega
    subst h'
    have c1 : nI k ≤ nI k := nI_le (Nat.le_refl _) (by omega)
    simp only [r0_53, r0_54, r0_55, r0_77, wo_nx, wo_ret, wo_ite, wo_call, bk_inl, mj_lda, mj_ldi, mj_sti, mj_sta, mj_b2, mj_br1, mj_br2, mj_brn, mj_ir, mj_rr, mj_nx, mj_gf, mj_fld, mj_k2, mj_rc, mj_cls, mj_dup, mj_inc, List.getElem?_cons_zero, List.getElem?_cons_succ, List.length_cons, List.length_nil, List.set_cons_succ, List.set_cons_zero, Nat.reduceAdd, Nat.reduceLT, if_true, if_false, mj_iif, decide_eq_true_eq, List.take_succ_cons, List.take_zero, List.reverse_cons, List.reverse_nil, List.nil_append, List.cons_append, List.drop_succ_cons, List.drop_zero, List.map_cons, List.map_nil, cat_i, cat_r, cat_n, Nat.reduceLeDiff, true_and, and_true, decide_true, Option.toList_some, Option.toList_none, and_self, Nat.le_refl, mj_vr, mj_zr, mj_th, wo_thr, mxl_0, mxl_1, mxl_2, mxl_3, mxl_4, mxl_5, mxl_6, mxl_7, mxl_8, mxl_9, mxl_10, mxl_11, mxl_12, mxl_13, mxl_14, mxl_15, mxl_16, mxl_17, mxl_18, mxl_19, mxl_20, mxl_21, mxl_22, mxl_23, mxl_24, mxl_25, mxl_26, mxl_27, mxl_28, mxl_29, mxl_30, mxl_31, mxl_32, mxl_33, mxl_34, mxl_35, mxl_36, mxl_37, mxl_38, mxl_39, mxl_40, mxl_41, mxl_42, mxl_43, mxl_44, mxl_45, mxl_46, mxl_47, mxl_48, mxl_49, mxl_50, mxl_51, mxl_52, mxl_53, mxl_54, mxl_55, mxl_56, mxl_57, mxl_58, mxl_59, mxl_60, mxl_61, mxl_62, mxl_63, mxl_64, mxl_65, mxl_66, mxl_67, mxl_68, mxl_69, mxl_70, mxl_71, mxl_72, mxl_73, mxl_74, mxl_75, mxl_76, mxl_77, mxl_78, mxl_79, mxl_80, mxl_81, mxl_82, mxl_83, mxl_84, mxl_85, mxl_86, mxl_136, mxl_137, c1]
  | j + 1, k, h => by
    have c1 : ¬ nI n ≤ nI k := nI_ge (by omega) (by omega)
    have ih := ld_loop hn hap ha' hp ha j (k + 1) (by omega)
    have hix' : mj_ix (nI k) n = true := ix_of (by omega) (by omega)
    have hcl' : (nI k).toNatClampNeg = k := nI_clamp (by omega)
    have h1 := ld_1 (ar := ar) (σ := σ) k
    have g0 : ∀ e, (mj_up (ld_ad ar σ k) p e).2.2 a = some (.inr (0, .ref p :: fs)) := fun e => by
      rw [up_ne hap, ld_old ha' k]
      exact ha
    have hw : ∀ (Q : (Option Value ⊕ String) → mj_S → Prop) (e : va_E), mj_wp (tb ar) 31 (mj_en (tb ar) 31 [.ref (ld_ad ar σ k).1] (mj_add (mj_up (ld_ad ar σ k) p e) 4 (.inr (7, [.null, .null, .int 0, .int 0])))) Q ↔ Q (.inl none) (mj_up (mj_add (mj_add (mj_add (ld_ad ar σ k) 4 (w_rw (σ.1 + 3 * k + 1) (σ.1 + 3 * k + 2))) 100 (w_z ar 100)) 100 (w_z ar 100)) p e) := fun Q e => by
      have q := w_new (ar := ar) (Q := Q) (σ := mj_up (ld_ad ar σ k) p e)
      rw [up_1, up_add (by omega), h1] at q
      rw [up_add (by omega), h1]
      refine q.trans ?_
      rw [up_add (by omega), up_add (by simp only [add_1]; omega), up_add (by simp only [add_1]; omega)]
    have g1 : ∀ e, (mj_up (mj_add (mj_add (mj_add (ld_ad ar σ k) 4 (w_rw (σ.1 + 3 * k + 1) (σ.1 + 3 * k + 2))) 100 (w_z ar 100)) 100 (w_z ar 100)) p e).2.2 (ld_ad ar σ k).1 = some (w_rw (σ.1 + 3 * k + 1) (σ.1 + 3 * k + 2)) := fun e => by
      rw [up_ne (by omega), add_ne (by simp only [add_1]; omega), add_ne (by simp only [add_1]; omega)]
      exact add_eq
    have a5 : (7 : Nat) ∈ mj_ak (tb ar) := (show 7 ∈ ([3, 4, 5, 7] : List Nat) from by decide)
    have a9 : mj_ar (tb ar) (2 + 7) = ar 9 := rfl
    refine Iff.trans ?_ ih
    rw [r0_53]
    simp only [r0_54, r0_55, r0_58, r0_59, r0_62, r0_63, r0_66, r0_67, wo_nx, wo_ret, wo_ite, wo_call, bk_inl, mj_lda, mj_ldi, mj_sti, mj_sta, mj_b2, mj_br1, mj_br2, mj_brn, mj_ir, mj_rr, mj_nx, mj_gf, mj_fld, mj_k2, mj_rc, mj_cls, mj_dup, mj_inc, List.getElem?_cons_zero, List.getElem?_cons_succ, List.length_cons, List.length_nil, List.set_cons_succ, List.set_cons_zero, Nat.reduceAdd, Nat.reduceLT, if_true, if_false, mj_iif, decide_eq_true_eq, List.take_succ_cons, List.take_zero, List.reverse_cons, List.reverse_nil, List.nil_append, List.cons_append, List.drop_succ_cons, List.drop_zero, List.map_cons, List.map_nil, cat_i, cat_r, cat_n, Nat.reduceLeDiff, true_and, and_true, decide_true, Option.toList_some, Option.toList_none, and_self, Nat.le_refl, mj_vr, mj_zr, mj_th, wo_thr, mxl_0, mxl_1, mxl_2, mxl_3, mxl_4, mxl_5, mxl_6, mxl_7, mxl_8, mxl_9, mxl_10, mxl_11, mxl_12, mxl_13, mxl_14, mxl_15, mxl_16, mxl_17, mxl_18, mxl_19, mxl_20, mxl_21, mxl_22, mxl_23, mxl_24, mxl_25, mxl_26, mxl_27, mxl_28, mxl_29, mxl_30, mxl_31, mxl_32, mxl_33, mxl_34, mxl_35, mxl_36, mxl_37, mxl_38, mxl_39, mxl_40, mxl_41, mxl_42, mxl_43, mxl_44, mxl_45, mxl_46, mxl_47, mxl_48, mxl_49, mxl_50, mxl_51, mxl_52, mxl_53, mxl_54, mxl_55, mxl_56, mxl_57, mxl_58, mxl_59, mxl_60, mxl_61, mxl_62, mxl_63, mxl_64, mxl_65, mxl_66, mxl_67, mxl_68, mxl_69, mxl_70, mxl_71, mxl_72, mxl_73, mxl_74, mxl_75, mxl_76, mxl_77, mxl_78, mxl_79, mxl_80, mxl_81, mxl_82, mxl_83, mxl_84, mxl_85, mxl_86, mxl_136, mxl_137, c1, g0, up_1, hw, Nat.zero_le]
    simp only [r0_70, r0_71, r0_74, wo_nx, wo_ret, wo_ite, wo_call, bk_inl, mj_lda, mj_ldi, mj_sti, mj_sta, mj_b2, mj_br1, mj_br2, mj_brn, mj_ir, mj_rr, mj_nx, mj_gf, mj_fld, mj_k2, mj_rc, mj_cls, mj_dup, mj_inc, List.getElem?_cons_zero, List.getElem?_cons_succ, List.length_cons, List.length_nil, List.set_cons_succ, List.set_cons_zero, Nat.reduceAdd, Nat.reduceLT, if_true, if_false, mj_iif, decide_eq_true_eq, List.take_succ_cons, List.take_zero, List.reverse_cons, List.reverse_nil, List.nil_append, List.cons_append, List.drop_succ_cons, List.drop_zero, List.map_cons, List.map_nil, cat_i, cat_r, cat_n, Nat.reduceLeDiff, true_and, and_true, decide_true, Option.toList_some, Option.toList_none, and_self, Nat.le_refl, mj_vr, mj_zr, mj_th, wo_thr, mxl_0, mxl_1, mxl_2, mxl_3, mxl_4, mxl_5, mxl_6, mxl_7, mxl_8, mxl_9, mxl_10, mxl_11, mxl_12, mxl_13, mxl_14, mxl_15, mxl_16, mxl_17, mxl_18, mxl_19, mxl_20, mxl_21, mxl_22, mxl_23, mxl_24, mxl_25, mxl_26, mxl_27, mxl_28, mxl_29, mxl_30, mxl_31, mxl_32, mxl_33, mxl_34, mxl_35, mxl_36, mxl_37, mxl_38, mxl_39, mxl_40, mxl_41, mxl_42, mxl_43, mxl_44, mxl_45, mxl_46, mxl_47, mxl_48, mxl_49, mxl_50, mxl_51, mxl_52, mxl_53, mxl_54, mxl_55, mxl_56, mxl_57, mxl_58, mxl_59, mxl_60, mxl_61, mxl_62, mxl_63, mxl_64, mxl_65, mxl_66, mxl_67, mxl_68, mxl_69, mxl_70, mxl_71, mxl_72, mxl_73, mxl_74, mxl_75, mxl_76, mxl_77, mxl_78, mxl_79, mxl_80, mxl_81, mxl_82, mxl_83, mxl_84, mxl_85, mxl_86, mxl_136, mxl_137, mj_aast, g1, up_eq, up_up, cs_rf, a5, a9, hix', hcl', nI_1]
    rw [h1, ld_pr_s]
    rfl
abbrev ld_c (ar : Nat → ClassId) (a : Nat) (n : Nat) : List (Nat × va_E) := [(100, w_ba ar 100 (fun _ => 0)), (100, w_z ar 100), (100, w_z ar 100), (100, w_z ar 100), (5, w_z ar 5), (n, cs_rf ar 9 n (fun _ => none))]
abbrev ld_o (a : Nat) : va_E := .inr (0, [.ref (a + 6), .ref (a + 1), .ref (a + 2), .ref (a + 3), .ref (a + 4), .ref (a + 5), .int 0, .int 0, .int 0, .int 0, .int 0, .int 0, .int 0])
/-- 'new Lead(n)' -/
theorem ld_new {n : Nat} (hn : n ≤ 9) : mj_wp (tb ar) 0 (mj_en (tb ar) 0 [.ref σ.1, .int (nI n)] (mj_add σ 13 (.inr (0, [.null, .null, .null, .null, .null, .null, .int 0, .int 0, .int 0, .int 0, .int 0, .int 0, .int 0])))) Q ↔ Q (.inl none) (mj_up (ld_ad ar (mj_ads (mj_add σ 13 (ld_o σ.1)) (ld_c ar σ.1 n)) n) (σ.1 + 6) (cs_rf ar 9 n (ld_pr (σ.1 + 7) n))) := by
  rw [ent_0]
  have c1 : (((100 : Int32)).toNatClampNeg = 100 ∧ ¬ (100 : Int32) < 0) := by decide
  have c3 : (((5 : Int32)).toNatClampNeg = 5 ∧ ¬ (5 : Int32) < 0) := by decide
  have c5 : ((nI n).toNatClampNeg = n ∧ ¬ nI n < 0) := ⟨nI_clamp (by omega), nI_pos (by omega)⟩
  have c6 : n ≤ 1000000 := by omega
  have a4 : mj_al (tb ar) (mj_o (tb ar) 0) 28 = some 7 := rfl
  have a5 : (7 : Nat) ∈ mj_ak (tb ar) := (show 7 ∈ ([3, 4, 5, 7] : List Nat) from by decide)
  have a9 : mj_ar (tb ar) (2 + 7) = ar 9 := rfl
  have a9' : mj_ar (tb ar) 9 = ar 9 := rfl
  have b1 : (mj_ads (mj_add σ 13 (ld_o σ.1)) (ld_c ar σ.1 n)).1 = σ.1 + 7 := by
    rw [ads_1, add_1]
    rfl
  have hl := ld_loop (ar := ar) (Q := Q) (σ := mj_ads (mj_add σ 13 (ld_o σ.1)) (ld_c ar σ.1 n)) (a := σ.1) (p := σ.1 + 6) (n := n) (fs := [.ref (σ.1 + 1), .ref (σ.1 + 2), .ref (σ.1 + 3), .ref (σ.1 + 4), .ref (σ.1 + 5), .int 0, .int 0, .int 0, .int 0, .int 0, .int 0, .int 0]) hn (by omega) (by omega) (by omega) ads_at0 n 0 (by omega)
  have hz : ld_pr (mj_ads (mj_add σ 13 (ld_o σ.1)) (ld_c ar σ.1 n)).1 0 = fun _ => none := by
    funext j
    exact if_neg (by omega)
  have hp : (mj_ads (mj_add σ 13 (ld_o σ.1)) (ld_c ar σ.1 n)).2.2 (σ.1 + 6) = some (cs_rf ar 9 n (fun _ => none)) := by
    have q := ads_at (ld_c ar σ.1 n) (mj_add σ 13 (ld_o σ.1)) 5 (show 5 < 6 by omega)
    rw [add_1] at q
    exact q
  rw [hz, nI_0, show ld_ad ar (mj_ads (mj_add σ 13 (ld_o σ.1)) (ld_c ar σ.1 n)) 0 = mj_ads (mj_add σ 13 (ld_o σ.1)) (ld_c ar σ.1 n) from rfl, up_self hp, b1] at hl
  refine Iff.trans ?_ hl
  have n0 : ∀ e : va_E, mj_add σ 13 e = mj_ads (mj_add σ 13 e) [] := fun _ => rfl
  rw [n0]
  simp only [r0_0, r0_1, r0_4, r0_5, r0_7, r0_9, r0_12, r0_13, r0_15, r0_17, r0_20, r0_21, r0_23, r0_25, r0_28, r0_29, r0_31, r0_33, r0_36, r0_37, r0_38, r0_40, r0_43, r0_44, r0_45, r0_48, r0_51, r0_52, wo_nx, wo_ret, wo_ite, wo_call, bk_inl, mj_lda, mj_ldi, mj_sti, mj_sta, mj_b2, mj_br1, mj_br2, mj_brn, mj_ir, mj_rr, mj_nx, mj_gf, mj_fld, mj_k2, mj_rc, mj_cls, mj_dup, mj_inc, List.getElem?_cons_zero, List.getElem?_cons_succ, List.length_cons, List.length_nil, List.set_cons_succ, List.set_cons_zero, Nat.reduceAdd, Nat.reduceLT, if_true, if_false, mj_iif, decide_eq_true_eq, List.take_succ_cons, List.take_zero, List.reverse_cons, List.reverse_nil, List.nil_append, List.cons_append, List.drop_succ_cons, List.drop_zero, List.map_cons, List.map_nil, cat_i, cat_r, cat_n, Nat.reduceLeDiff, true_and, and_true, decide_true, Option.toList_some, Option.toList_none, and_self, Nat.le_refl, mj_vr, mj_zr, mj_th, wo_thr, mxl_0, mxl_1, mxl_2, mxl_3, mxl_4, mxl_5, mxl_6, mxl_7, mxl_8, mxl_9, mxl_10, mxl_11, mxl_12, mxl_13, mxl_14, mxl_15, mxl_16, mxl_17, mxl_18, mxl_19, mxl_20, mxl_21, mxl_22, mxl_23, mxl_24, mxl_25, mxl_26, mxl_27, mxl_28, mxl_29, mxl_30, mxl_31, mxl_32, mxl_33, mxl_34, mxl_35, mxl_36, mxl_37, mxl_38, mxl_39, mxl_40, mxl_41, mxl_42, mxl_43, mxl_44, mxl_45, mxl_46, mxl_47, mxl_48, mxl_49, mxl_50, mxl_51, mxl_52, mxl_53, mxl_54, mxl_55, mxl_56, mxl_57, mxl_58, mxl_59, mxl_60, mxl_61, mxl_62, mxl_63, mxl_64, mxl_65, mxl_66, mxl_67, mxl_68, mxl_69, mxl_70, mxl_71, mxl_72, mxl_73, mxl_74, mxl_75, mxl_76, mxl_77, mxl_78, mxl_79, mxl_80, mxl_81, mxl_82, mxl_83, mxl_84, mxl_85, mxl_86, mxl_136, mxl_137, mj_oi, mj_newa, mj_anew, a4, a5, a9, a9', Nat.zero_le, mj_pf, mj_sf, mj_fit, ads_snoc, ads_at0, ads_up0, ads_1, add_1, c1, c3, c5, c6, not_false_eq_true, Option.isSome_some, ar_0, ar_1, Nat.add_assoc, Nat.reduceAdd]
  rfl
abbrev mn_c (ar : Nat → ClassId) (a : Nat) (x : Int32) (n : Nat) : List (Nat × va_E) := [(8, .inr (1, [.ref (a + 2), .ref (a + 3), .ref (a + 4), .int 0, .int 0, .int 0, .int 0, .int (-1)])), (100, w_ba ar 100 (fun _ => 0)), (100, w_z ar 100), (104, w_ia ar 104 (lg_mb ((1 <<< (x &&& 31)) - 1) 4)), (3, .inr (8, [.ref (a + 6), .int 0, .int 0])), (25, w_z ar 25), (13, ld_o (a + 7)), (100, w_ba ar 100 (fun _ => 0)), (100, w_z ar 100), (100, w_z ar 100), (100, w_z ar 100), (5, w_z ar 5), (n, cs_rf ar 9 n (fun _ => none))]
abbrev mn_o (a : Nat) : va_E := .inr (3, [.ref (a + 1), .ref (a + 5), .ref (a + 7)])
/-- 'new Main(m, n)' -/
theorem mn_new {x : Int32} {n : Nat} (hn : n ≤ 9) : mj_wp (tb ar) 20 (mj_en (tb ar) 20 [.ref σ.1, .int x, .int (nI n)] (mj_add σ 3 (.inr (3, [.null, .null, .null])))) Q ↔ Q (.inl none) (mj_up (ld_ad ar (mj_ads (mj_add σ 3 (mn_o σ.1)) (mn_c ar σ.1 x n)) n) (σ.1 + 13) (cs_rf ar 9 n (ld_pr (σ.1 + 14) n))) := by
  rw [ent_20]
  have n0 : ∀ e : va_E, mj_add σ 3 e = mj_ads (mj_add σ 3 e) [] := fun _ => rfl
  have hq1 : ∀ (Q : (Option Value ⊕ String) → mj_S → Prop) (e : va_E), _ := fun Q e => lg_new (ar := ar) (Q := Q) (x := x) (σ := mj_ads (mj_add σ 3 e) [])
  simp only [ads_snoc, ads_1, add_1, List.nil_append, List.cons_append, List.length_nil, List.length_cons, Nat.add_assoc, Nat.reduceAdd, Nat.add_zero] at hq1
  have hq2 : ∀ (Q : (Option Value ⊕ String) → mj_S → Prop) (e e1 e2 e3 e4 : va_E), _ := fun Q e e1 e2 e3 e4 => v_new (ar := ar) (Q := Q) (σ := mj_ads (mj_add σ 3 e) [(8, e1), (100, e2), (100, e3), (104, e4)])
  simp only [ads_snoc, ads_1, add_1, List.nil_append, List.cons_append, List.length_nil, List.length_cons, Nat.add_assoc, Nat.reduceAdd, Nat.add_zero] at hq2
  have hq3 : ∀ (Q : (Option Value ⊕ String) → mj_S → Prop) (e e1 e2 e3 e4 e5 e6 : va_E), _ := fun Q e e1 e2 e3 e4 e5 e6 => ld_new (ar := ar) (Q := Q) (n := n) (σ := mj_ads (mj_add σ 3 e) [(8, e1), (100, e2), (100, e3), (104, e4), (3, e5), (25, e6)]) hn
  have ap : ∀ (e e1 e2 e3 e4 e5 e6 e7 : va_E) (l : List (Nat × va_E)), mj_ads (mj_ads (mj_add σ 3 e) [(8, e1), (100, e2), (100, e3), (104, e4), (3, e5), (25, e6), (13, e7)]) l = mj_ads (mj_add σ 3 e) ([(8, e1), (100, e2), (100, e3), (104, e4), (3, e5), (25, e6), (13, e7)] ++ l) := fun _ _ _ _ _ _ _ _ _ => (List.foldl_append ..).symm
  simp only [ads_snoc, ads_1, add_1, List.nil_append, List.cons_append, List.length_nil, List.length_cons, Nat.add_assoc, Nat.reduceAdd, Nat.add_zero, ap] at hq3
  rw [n0]
  simp only [r20_0, r20_1, r20_4, r20_5, r20_8, r20_9, r20_10, wo_nx, wo_ret, wo_ite, wo_call, bk_inl, mj_lda, mj_ldi, mj_sti, mj_sta, mj_b2, mj_br1, mj_br2, mj_brn, mj_ir, mj_rr, mj_nx, mj_gf, mj_fld, mj_k2, mj_rc, mj_cls, mj_dup, mj_inc, List.getElem?_cons_zero, List.getElem?_cons_succ, List.length_cons, List.length_nil, List.set_cons_succ, List.set_cons_zero, Nat.reduceAdd, Nat.reduceLT, if_true, if_false, mj_iif, decide_eq_true_eq, List.take_succ_cons, List.take_zero, List.reverse_cons, List.reverse_nil, List.nil_append, List.cons_append, List.drop_succ_cons, List.drop_zero, List.map_cons, List.map_nil, cat_i, cat_r, cat_n, Nat.reduceLeDiff, true_and, and_true, decide_true, Option.toList_some, Option.toList_none, and_self, Nat.le_refl, mj_vr, mj_zr, mj_th, wo_thr, mxl_0, mxl_1, mxl_2, mxl_3, mxl_4, mxl_5, mxl_6, mxl_7, mxl_8, mxl_9, mxl_10, mxl_11, mxl_12, mxl_13, mxl_14, mxl_15, mxl_16, mxl_17, mxl_18, mxl_19, mxl_20, mxl_21, mxl_22, mxl_23, mxl_24, mxl_25, mxl_26, mxl_27, mxl_28, mxl_29, mxl_30, mxl_31, mxl_32, mxl_33, mxl_34, mxl_35, mxl_36, mxl_37, mxl_38, mxl_39, mxl_40, mxl_41, mxl_42, mxl_43, mxl_44, mxl_45, mxl_46, mxl_47, mxl_48, mxl_49, mxl_50, mxl_51, mxl_52, mxl_53, mxl_54, mxl_55, mxl_56, mxl_57, mxl_58, mxl_59, mxl_60, mxl_61, mxl_62, mxl_63, mxl_64, mxl_65, mxl_66, mxl_67, mxl_68, mxl_69, mxl_70, mxl_71, mxl_72, mxl_73, mxl_74, mxl_75, mxl_76, mxl_77, mxl_78, mxl_79, mxl_80, mxl_81, mxl_82, mxl_83, mxl_84, mxl_85, mxl_86, mxl_136, mxl_137, mj_oi, Nat.zero_le, ads_snoc, ads_1, add_1, Nat.add_assoc, Nat.add_zero, hq1]
  simp only [r20_13, r20_16, r20_17, r20_20, r20_21, wo_nx, wo_ret, wo_ite, wo_call, bk_inl, mj_lda, mj_ldi, mj_sti, mj_sta, mj_b2, mj_br1, mj_br2, mj_brn, mj_ir, mj_rr, mj_nx, mj_gf, mj_fld, mj_k2, mj_rc, mj_cls, mj_dup, mj_inc, List.getElem?_cons_zero, List.getElem?_cons_succ, List.length_cons, List.length_nil, List.set_cons_succ, List.set_cons_zero, Nat.reduceAdd, Nat.reduceLT, if_true, if_false, mj_iif, decide_eq_true_eq, List.take_succ_cons, List.take_zero, List.reverse_cons, List.reverse_nil, List.nil_append, List.cons_append, List.drop_succ_cons, List.drop_zero, List.map_cons, List.map_nil, cat_i, cat_r, cat_n, Nat.reduceLeDiff, true_and, and_true, decide_true, Option.toList_some, Option.toList_none, and_self, Nat.le_refl, mj_vr, mj_zr, mj_th, wo_thr, mxl_0, mxl_1, mxl_2, mxl_3, mxl_4, mxl_5, mxl_6, mxl_7, mxl_8, mxl_9, mxl_10, mxl_11, mxl_12, mxl_13, mxl_14, mxl_15, mxl_16, mxl_17, mxl_18, mxl_19, mxl_20, mxl_21, mxl_22, mxl_23, mxl_24, mxl_25, mxl_26, mxl_27, mxl_28, mxl_29, mxl_30, mxl_31, mxl_32, mxl_33, mxl_34, mxl_35, mxl_36, mxl_37, mxl_38, mxl_39, mxl_40, mxl_41, mxl_42, mxl_43, mxl_44, mxl_45, mxl_46, mxl_47, mxl_48, mxl_49, mxl_50, mxl_51, mxl_52, mxl_53, mxl_54, mxl_55, mxl_56, mxl_57, mxl_58, mxl_59, mxl_60, mxl_61, mxl_62, mxl_63, mxl_64, mxl_65, mxl_66, mxl_67, mxl_68, mxl_69, mxl_70, mxl_71, mxl_72, mxl_73, mxl_74, mxl_75, mxl_76, mxl_77, mxl_78, mxl_79, mxl_80, mxl_81, mxl_82, mxl_83, mxl_84, mxl_85, mxl_86, mxl_136, mxl_137, mj_pf, mj_sf, mj_fit, ads_snoc, ads_at0, ads_up0, ads_1, add_1, Nat.add_assoc, Nat.add_zero, Option.isSome_some, Nat.zero_le, hq2]
  simp only [r20_24, r20_27, r20_28, r20_31, r20_32, r20_33, wo_nx, wo_ret, wo_ite, wo_call, bk_inl, mj_lda, mj_ldi, mj_sti, mj_sta, mj_b2, mj_br1, mj_br2, mj_brn, mj_ir, mj_rr, mj_nx, mj_gf, mj_fld, mj_k2, mj_rc, mj_cls, mj_dup, mj_inc, List.getElem?_cons_zero, List.getElem?_cons_succ, List.length_cons, List.length_nil, List.set_cons_succ, List.set_cons_zero, Nat.reduceAdd, Nat.reduceLT, if_true, if_false, mj_iif, decide_eq_true_eq, List.take_succ_cons, List.take_zero, List.reverse_cons, List.reverse_nil, List.nil_append, List.cons_append, List.drop_succ_cons, List.drop_zero, List.map_cons, List.map_nil, cat_i, cat_r, cat_n, Nat.reduceLeDiff, true_and, and_true, decide_true, Option.toList_some, Option.toList_none, and_self, Nat.le_refl, mj_vr, mj_zr, mj_th, wo_thr, mxl_0, mxl_1, mxl_2, mxl_3, mxl_4, mxl_5, mxl_6, mxl_7, mxl_8, mxl_9, mxl_10, mxl_11, mxl_12, mxl_13, mxl_14, mxl_15, mxl_16, mxl_17, mxl_18, mxl_19, mxl_20, mxl_21, mxl_22, mxl_23, mxl_24, mxl_25, mxl_26, mxl_27, mxl_28, mxl_29, mxl_30, mxl_31, mxl_32, mxl_33, mxl_34, mxl_35, mxl_36, mxl_37, mxl_38, mxl_39, mxl_40, mxl_41, mxl_42, mxl_43, mxl_44, mxl_45, mxl_46, mxl_47, mxl_48, mxl_49, mxl_50, mxl_51, mxl_52, mxl_53, mxl_54, mxl_55, mxl_56, mxl_57, mxl_58, mxl_59, mxl_60, mxl_61, mxl_62, mxl_63, mxl_64, mxl_65, mxl_66, mxl_67, mxl_68, mxl_69, mxl_70, mxl_71, mxl_72, mxl_73, mxl_74, mxl_75, mxl_76, mxl_77, mxl_78, mxl_79, mxl_80, mxl_81, mxl_82, mxl_83, mxl_84, mxl_85, mxl_86, mxl_136, mxl_137, mj_pf, mj_sf, mj_fit, ads_snoc, ads_at0, ads_up0, ads_1, add_1, Nat.add_assoc, Nat.add_zero, Option.isSome_some, Nat.zero_le, hq3]
  have hz : ∀ (e e' : va_E) (l : List (Nat × va_E)) (y : va_E), 13 ≤ l.length → (mj_up (ld_ad ar (mj_ads (mj_add σ 3 e) l) n) (σ.1 + 13) y).2.2 σ.1 = some e ∧ mj_up (mj_up (ld_ad ar (mj_ads (mj_add σ 3 e) l) n) (σ.1 + 13) y) σ.1 e' = mj_up (ld_ad ar (mj_ads (mj_add σ 3 e') l) n) (σ.1 + 13) y := fun e e' l y hl => by
    have h0 : σ.1 < (mj_ads (mj_add σ 3 e) l).1 := by rw [ads_1, add_1]; omega
    constructor
    · rw [up_ne (by omega), ld_old h0]
      exact ads_at0
    · rw [up_cm (by omega)]
      refine congrArg (fun x => mj_up x (σ.1 + 13) y) ?_
      have key : ∀ j, mj_up (ld_ad ar (mj_ads (mj_add σ 3 e) l) j) σ.1 e' = ld_ad ar (mj_ads (mj_add σ 3 e') l) j := by
        intro j
        induction j with
        | zero => exact ads_up0
        | succ j ih =>
          have h1 := ld_1 (ar := ar) (σ := mj_ads (mj_add σ 3 e) l) j
          have e1 : (mj_ads (mj_add σ 3 e) l).1 = (mj_ads (mj_add σ 3 e') l).1 := by rw [ads_1, ads_1, add_1, add_1]
          show mj_up (mj_add (mj_add (mj_add (ld_ad ar (mj_ads (mj_add σ 3 e) l) j) 4 _) 100 _) 100 _) σ.1 e' = mj_add (mj_add (mj_add (ld_ad ar (mj_ads (mj_add σ 3 e') l) j) 4 _) 100 _) 100 _
          rw [← up_add (by simp only [add_1]; omega), ← up_add (by simp only [add_1]; omega), ← up_add (by omega), ih, e1]
      exact key n
  have hz1 := hz (.inr (3, [.ref (σ.1 + 1), .ref (σ.1 + 5), .null])) (mn_o σ.1) (mn_c ar σ.1 x n) (cs_rf ar 9 n (ld_pr (σ.1 + 14) n)) (Nat.le_refl 13)
  simp only [r20_36, r20_39, wo_nx, wo_ret, wo_ite, wo_call, bk_inl, mj_lda, mj_ldi, mj_sti, mj_sta, mj_b2, mj_br1, mj_br2, mj_brn, mj_ir, mj_rr, mj_nx, mj_gf, mj_fld, mj_k2, mj_rc, mj_cls, mj_dup, mj_inc, List.getElem?_cons_zero, List.getElem?_cons_succ, List.length_cons, List.length_nil, List.set_cons_succ, List.set_cons_zero, Nat.reduceAdd, Nat.reduceLT, if_true, if_false, mj_iif, decide_eq_true_eq, List.take_succ_cons, List.take_zero, List.reverse_cons, List.reverse_nil, List.nil_append, List.cons_append, List.drop_succ_cons, List.drop_zero, List.map_cons, List.map_nil, cat_i, cat_r, cat_n, Nat.reduceLeDiff, true_and, and_true, decide_true, Option.toList_some, Option.toList_none, and_self, Nat.le_refl, mj_vr, mj_zr, mj_th, wo_thr, mxl_0, mxl_1, mxl_2, mxl_3, mxl_4, mxl_5, mxl_6, mxl_7, mxl_8, mxl_9, mxl_10, mxl_11, mxl_12, mxl_13, mxl_14, mxl_15, mxl_16, mxl_17, mxl_18, mxl_19, mxl_20, mxl_21, mxl_22, mxl_23, mxl_24, mxl_25, mxl_26, mxl_27, mxl_28, mxl_29, mxl_30, mxl_31, mxl_32, mxl_33, mxl_34, mxl_35, mxl_36, mxl_37, mxl_38, mxl_39, mxl_40, mxl_41, mxl_42, mxl_43, mxl_44, mxl_45, mxl_46, mxl_47, mxl_48, mxl_49, mxl_50, mxl_51, mxl_52, mxl_53, mxl_54, mxl_55, mxl_56, mxl_57, mxl_58, mxl_59, mxl_60, mxl_61, mxl_62, mxl_63, mxl_64, mxl_65, mxl_66, mxl_67, mxl_68, mxl_69, mxl_70, mxl_71, mxl_72, mxl_73, mxl_74, mxl_75, mxl_76, mxl_77, mxl_78, mxl_79, mxl_80, mxl_81, mxl_82, mxl_83, mxl_84, mxl_85, mxl_86, mxl_136, mxl_137, mj_pf, mj_sf, mj_fit, hz1.1, hz1.2, Option.isSome_some]
end CP
