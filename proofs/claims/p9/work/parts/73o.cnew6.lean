section CS6
variable {ar : Nat → ClassId} {m : Nat} {σ τ : mj_S} {Q : (Option Value ⊕ String) → mj_S → Prop}
def c0_q (m : Nat) : Nat := 6 + (2 * m - 1) + 208 * (2 * m - 1) + m + (761 + 205 * (2 * m - 1)) * m + 1212
abbrev c0_w (m : Nat) : Int32 := (1 <<< (nI (2 * m - 1) &&& 31)) - (1 <<< (nI m &&& 31))
abbrev c0_d : va_E := .inr (9, [.int 0, .int 0, .int 0, .null, .null, .null])
abbrev c0_1 (B m : Nat) : va_E := .inr (9, [.int (nI m), .int (nI (2 * m - 1)), .int (c0_w m), .ref (B + 1), .null, .null])
theorem cn_1 {v : Int32} (hm : m = rs_m v) (h : ∀ l2, mj_wp (tb ar) 41 (75, [some (.ref σ.1), some (.int v), l2, some (.int (nI 0))], [], mj_ads (mj_add σ 6 (c0_1 σ.1 m)) [(2 * m - 1, cs_rf ar 7 (2 * m - 1) (fun _ => none))]) Q) : mj_wp (tb ar) 41 (mj_en (tb ar) 41 [.ref σ.1, .int v] (mj_add σ 6 c0_d)) Q := by
  rw [ent_41]
  have n0 : ∀ e : va_E, mj_add σ 6 e = mj_ads (mj_add σ 6 e) [] := fun _ => rfl
  have a4 : mj_al (tb ar) (mj_o (tb ar) 41) 19 = some 5 := rfl
  have a5 : (5 : Nat) ∈ mj_ak (tb ar) := (show 5 ∈ ([3, 4, 5, 7] : List Nat) from by decide)
  have a7 : mj_ar (tb ar) (2 + 5) = ar 7 := rfl
  have a7' : mj_ar (tb ar) 7 = ar 7 := rfl
  have h25 := rs_m_or v
  rw [← hm] at h25
  have h2 := rs_two h25
  have c5 : ((nI (2 * m - 1)).toNatClampNeg = 2 * m - 1 ∧ ¬ nI (2 * m - 1) < 0) := ⟨nI_clamp (by omega), nI_pos (by omega)⟩
  have c6 : 2 * m - 1 ≤ 1000000 := by omega
  rw [n0]
  have key : ∀ (l2 : Option Value), mj_wp (tb ar) 41 (30, [some (.ref σ.1), some (.int v), l2, none], [.int (nI m), .ref σ.1], mj_ads (mj_add σ 6 c0_d) []) Q := by
    intro l2
    simp only [r41_30, r41_33, r41_34, r41_35, r41_36, r41_39, r41_40, r41_41, r41_42, r41_45, r41_46, r41_47, r41_48, r41_51, r41_52, r41_53, r41_54, r41_57, r41_58, r41_59, r41_62, r41_63, r41_64, r41_67, r41_70, r41_73, r41_74, wo_nx, wo_ret, wo_ite, wo_call, bk_inl, mj_lda, mj_ldi, mj_sti, mj_sta, mj_b2, mj_br1, mj_br2, mj_brn, mj_ir, mj_rr, mj_nx, mj_gf, mj_fld, mj_k2, mj_rc, mj_cls, mj_dup, mj_inc, List.getElem?_cons_zero, List.getElem?_cons_succ, List.length_cons, List.length_nil, List.set_cons_succ, List.set_cons_zero, Nat.reduceAdd, Nat.reduceLT, if_true, if_false, mj_iif, decide_eq_true_eq, List.take_succ_cons, List.take_zero, List.reverse_cons, List.reverse_nil, List.nil_append, List.cons_append, List.drop_succ_cons, List.drop_zero, List.map_cons, List.map_nil, cat_i, cat_r, cat_n, Nat.reduceLeDiff, true_and, and_true, decide_true, Option.toList_some, Option.toList_none, and_self, Nat.le_refl, mj_vr, mj_zr, mj_th, wo_thr, mxl_0, mxl_1, mxl_2, mxl_3, mxl_4, mxl_5, mxl_6, mxl_7, mxl_8, mxl_9, mxl_10, mxl_11, mxl_12, mxl_13, mxl_14, mxl_15, mxl_16, mxl_17, mxl_18, mxl_19, mxl_20, mxl_21, mxl_22, mxl_23, mxl_24, mxl_25, mxl_26, mxl_27, mxl_28, mxl_29, mxl_30, mxl_31, mxl_32, mxl_33, mxl_34, mxl_35, mxl_36, mxl_37, mxl_38, mxl_39, mxl_40, mxl_41, mxl_42, mxl_43, mxl_44, mxl_45, mxl_46, mxl_47, mxl_48, mxl_49, mxl_50, mxl_51, mxl_52, mxl_53, mxl_54, mxl_55, mxl_56, mxl_57, mxl_58, mxl_59, mxl_60, mxl_61, mxl_62, mxl_63, mxl_64, mxl_65, mxl_66, mxl_67, mxl_68, mxl_69, mxl_70, mxl_71, mxl_72, mxl_73, mxl_74, mxl_75, mxl_76, mxl_77, mxl_78, mxl_79, mxl_80, mxl_81, mxl_82, mxl_83, mxl_84, mxl_85, mxl_86, mxl_136, mxl_137, mj_anew, a4, a5, a7, a7', mj_pf, mj_sf, mj_fit, ads_snoc, ads_at0, ads_up0, ads_1, add_1, h2, c5, c6, not_false_eq_true, Option.isSome_some, Nat.add_zero]
    exact h l2
  by_cases hv : v < 2 ∨ 5 < v
  · have e3 : m = 3 := by rw [hm]; exact if_pos hv
    have k3 := key (some (.int 0))
    rw [e3] at k3
    rcases Classical.em (v < 2) with h1 | h1
    · simp only [r41_0, r41_1, r41_4, r41_5, r41_6, r41_18, r41_19, r41_20, r41_21, r41_22, r41_29, wo_nx, wo_ret, wo_ite, wo_call, bk_inl, mj_lda, mj_ldi, mj_sti, mj_sta, mj_b2, mj_br1, mj_br2, mj_brn, mj_ir, mj_rr, mj_nx, mj_gf, mj_fld, mj_k2, mj_rc, mj_cls, mj_dup, mj_inc, List.getElem?_cons_zero, List.getElem?_cons_succ, List.length_cons, List.length_nil, List.set_cons_succ, List.set_cons_zero, Nat.reduceAdd, Nat.reduceLT, if_true, if_false, mj_iif, decide_eq_true_eq, List.take_succ_cons, List.take_zero, List.reverse_cons, List.reverse_nil, List.nil_append, List.cons_append, List.drop_succ_cons, List.drop_zero, List.map_cons, List.map_nil, cat_i, cat_r, cat_n, Nat.reduceLeDiff, true_and, and_true, decide_true, Option.toList_some, Option.toList_none, and_self, Nat.le_refl, mj_vr, mj_zr, mj_th, wo_thr, mxl_0, mxl_1, mxl_2, mxl_3, mxl_4, mxl_5, mxl_6, mxl_7, mxl_8, mxl_9, mxl_10, mxl_11, mxl_12, mxl_13, mxl_14, mxl_15, mxl_16, mxl_17, mxl_18, mxl_19, mxl_20, mxl_21, mxl_22, mxl_23, mxl_24, mxl_25, mxl_26, mxl_27, mxl_28, mxl_29, mxl_30, mxl_31, mxl_32, mxl_33, mxl_34, mxl_35, mxl_36, mxl_37, mxl_38, mxl_39, mxl_40, mxl_41, mxl_42, mxl_43, mxl_44, mxl_45, mxl_46, mxl_47, mxl_48, mxl_49, mxl_50, mxl_51, mxl_52, mxl_53, mxl_54, mxl_55, mxl_56, mxl_57, mxl_58, mxl_59, mxl_60, mxl_61, mxl_62, mxl_63, mxl_64, mxl_65, mxl_66, mxl_67, mxl_68, mxl_69, mxl_70, mxl_71, mxl_72, mxl_73, mxl_74, mxl_75, mxl_76, mxl_77, mxl_78, mxl_79, mxl_80, mxl_81, mxl_82, mxl_83, mxl_84, mxl_85, mxl_86, mxl_136, mxl_137, mj_oi, Nat.zero_le, h1]
      exact k3
    · have h5 : 5 < v := hv.resolve_left h1
      simp only [r41_0, r41_1, r41_4, r41_5, r41_6, r41_9, r41_10, r41_11, r41_18, r41_19, r41_20, r41_21, r41_22, r41_29, wo_nx, wo_ret, wo_ite, wo_call, bk_inl, mj_lda, mj_ldi, mj_sti, mj_sta, mj_b2, mj_br1, mj_br2, mj_brn, mj_ir, mj_rr, mj_nx, mj_gf, mj_fld, mj_k2, mj_rc, mj_cls, mj_dup, mj_inc, List.getElem?_cons_zero, List.getElem?_cons_succ, List.length_cons, List.length_nil, List.set_cons_succ, List.set_cons_zero, Nat.reduceAdd, Nat.reduceLT, if_true, if_false, mj_iif, decide_eq_true_eq, List.take_succ_cons, List.take_zero, List.reverse_cons, List.reverse_nil, List.nil_append, List.cons_append, List.drop_succ_cons, List.drop_zero, List.map_cons, List.map_nil, cat_i, cat_r, cat_n, Nat.reduceLeDiff, true_and, and_true, decide_true, Option.toList_some, Option.toList_none, and_self, Nat.le_refl, mj_vr, mj_zr, mj_th, wo_thr, mxl_0, mxl_1, mxl_2, mxl_3, mxl_4, mxl_5, mxl_6, mxl_7, mxl_8, mxl_9, mxl_10, mxl_11, mxl_12, mxl_13, mxl_14, mxl_15, mxl_16, mxl_17, mxl_18, mxl_19, mxl_20, mxl_21, mxl_22, mxl_23, mxl_24, mxl_25, mxl_26, mxl_27, mxl_28, mxl_29, mxl_30, mxl_31, mxl_32, mxl_33, mxl_34, mxl_35, mxl_36, mxl_37, mxl_38, mxl_39, mxl_40, mxl_41, mxl_42, mxl_43, mxl_44, mxl_45, mxl_46, mxl_47, mxl_48, mxl_49, mxl_50, mxl_51, mxl_52, mxl_53, mxl_54, mxl_55, mxl_56, mxl_57, mxl_58, mxl_59, mxl_60, mxl_61, mxl_62, mxl_63, mxl_64, mxl_65, mxl_66, mxl_67, mxl_68, mxl_69, mxl_70, mxl_71, mxl_72, mxl_73, mxl_74, mxl_75, mxl_76, mxl_77, mxl_78, mxl_79, mxl_80, mxl_81, mxl_82, mxl_83, mxl_84, mxl_85, mxl_86, mxl_136, mxl_137, mj_oi, Nat.zero_le, h1, h5]
      exact k3
  · have h1 : ¬ v < 2 := fun q => hv (Or.inl q)
    have h5 : ¬ 5 < v := fun q => hv (Or.inr q)
    have ev := rs_m_in hv
    rw [← hm] at ev
    have k3 := key (some (.int 1))
    simp only [r41_0, r41_1, r41_4, r41_5, r41_6, r41_9, r41_10, r41_11, r41_14, r41_15, r41_19, r41_20, r41_21, r41_22, r41_25, r41_26, wo_nx, wo_ret, wo_ite, wo_call, bk_inl, mj_lda, mj_ldi, mj_sti, mj_sta, mj_b2, mj_br1, mj_br2, mj_brn, mj_ir, mj_rr, mj_nx, mj_gf, mj_fld, mj_k2, mj_rc, mj_cls, mj_dup, mj_inc, List.getElem?_cons_zero, List.getElem?_cons_succ, List.length_cons, List.length_nil, List.set_cons_succ, List.set_cons_zero, Nat.reduceAdd, Nat.reduceLT, if_true, if_false, mj_iif, decide_eq_true_eq, List.take_succ_cons, List.take_zero, List.reverse_cons, List.reverse_nil, List.nil_append, List.cons_append, List.drop_succ_cons, List.drop_zero, List.map_cons, List.map_nil, cat_i, cat_r, cat_n, Nat.reduceLeDiff, true_and, and_true, decide_true, Option.toList_some, Option.toList_none, and_self, Nat.le_refl, mj_vr, mj_zr, mj_th, wo_thr, mxl_0, mxl_1, mxl_2, mxl_3, mxl_4, mxl_5, mxl_6, mxl_7, mxl_8, mxl_9, mxl_10, mxl_11, mxl_12, mxl_13, mxl_14, mxl_15, mxl_16, mxl_17, mxl_18, mxl_19, mxl_20, mxl_21, mxl_22, mxl_23, mxl_24, mxl_25, mxl_26, mxl_27, mxl_28, mxl_29, mxl_30, mxl_31, mxl_32, mxl_33, mxl_34, mxl_35, mxl_36, mxl_37, mxl_38, mxl_39, mxl_40, mxl_41, mxl_42, mxl_43, mxl_44, mxl_45, mxl_46, mxl_47, mxl_48, mxl_49, mxl_50, mxl_51, mxl_52, mxl_53, mxl_54, mxl_55, mxl_56, mxl_57, mxl_58, mxl_59, mxl_60, mxl_61, mxl_62, mxl_63, mxl_64, mxl_65, mxl_66, mxl_67, mxl_68, mxl_69, mxl_70, mxl_71, mxl_72, mxl_73, mxl_74, mxl_75, mxl_76, mxl_77, mxl_78, mxl_79, mxl_80, mxl_81, mxl_82, mxl_83, mxl_84, mxl_85, mxl_86, mxl_136, mxl_137, mj_oi, Nat.zero_le, h1, h5, k_10]
    rw [← ev] at k3
    exact k3
theorem C_new {v : Int32} (hm : m = rs_m v) (hσ : ∀ a, σ.2.2 a = none) (hQ : ∀ τ, tg_R (fa σ.1 m) (c0_h ar σ.1 m) τ → τ.1 = mt_ σ.1 m + 6 → τ.2.1 = σ.2.1 + c0_q m → Q (.inl none) τ) : mj_wp (tb ar) 41 (mj_en (tb ar) 41 [.ref σ.1, .int v] (mj_add σ 6 c0_d)) Q := by
  have h25 := rs_m_or v
  rw [← hm] at h25
  refine cn_1 hm (fun l2 => ?_)
  have t0 : tg_R (fa σ.1 m) (fun _ => none) σ := ⟨fun _ _ h => (by cases h), fun _ _ _ _ h => (by cases h), fun _ _ h => (by cases h)⟩
  have t1 := tg_newf (t := (0, 0)) t0 rfl rfl 6 (c0_1 σ.1 m)
  have t2 := tg_newf (t := (1, 0)) t1 (tg_un (by simp)) rfl (2 * m - 1) (cs_rf ar 7 (2 * m - 1) (fun _ => none))
  have t3 : tg_R (fa σ.1 m) (hn_ ar σ.1 m (c0_1 σ.1 m) 0) (mj_ads (mj_add σ 6 (c0_1 σ.1 m)) [(2 * m - 1, cs_rf ar 7 (2 * m - 1) (fun _ => none))]) := by
    refine tg_sub t2 (fun t e ht => ?_)
    unfold hn_ at ht
    by_cases e0 : t = (0, 0)
    · rw [if_pos e0] at ht
      rw [e0, tg_un (by simp), tg_ue]
      exact ht
    · rw [if_neg e0] at ht
      by_cases e1 : t = (1, 0)
      · rw [if_pos e1] at ht
        rw [e1, tg_ue]
        exact ht
      · rw [if_neg e1, if_neg (by omega)] at ht
        cases ht
  refine hn_loop (ar := ar) (B := σ.1) (m := m) (by omega) (by omega) (σ.2.1 + 6 + (2 * m - 1)) ?_ (2 * m - 1) 0 (by omega) _ t3 rfl rfl
  intro τ h h1 h2
  have g0 : τ.2.2 σ.1 = some (c0_1 σ.1 m) := tg_get (t := (0, 0)) h rfl
  have a4 : mj_al (tb ar) (mj_o (tb ar) 41) 26 = some 3 := rfl
  have a5 : (3 : Nat) ∈ mj_ak (tb ar) := (show 3 ∈ ([3, 4, 5, 7] : List Nat) from by decide)
  have a7 : mj_ar (tb ar) (2 + 3) = ar 5 := rfl
  have a7' : mj_ar (tb ar) 5 = ar 5 := rfl
  have c5 : ((nI m).toNatClampNeg = m ∧ ¬ nI m < 0) := ⟨nI_clamp (by omega), nI_pos (by omega)⟩
  have c6 : m ≤ 1000000 := by omega
  have g0' : ∀ (n : Nat) (e : va_E), (mj_add τ n e).2.2 σ.1 = some (c0_1 σ.1 m) := fun n e => by rw [add_ne (by omega)]; exact g0
  simp only [r41_102, r41_103, r41_104, r41_107, r41_110, r41_113, r41_114, wo_nx, wo_ret, wo_ite, wo_call, bk_inl, mj_lda, mj_ldi, mj_sti, mj_sta, mj_b2, mj_br1, mj_br2, mj_brn, mj_ir, mj_rr, mj_nx, mj_gf, mj_fld, mj_k2, mj_rc, mj_cls, mj_dup, mj_inc, List.getElem?_cons_zero, List.getElem?_cons_succ, List.length_cons, List.length_nil, List.set_cons_succ, List.set_cons_zero, Nat.reduceAdd, Nat.reduceLT, if_true, if_false, mj_iif, decide_eq_true_eq, List.take_succ_cons, List.take_zero, List.reverse_cons, List.reverse_nil, List.nil_append, List.cons_append, List.drop_succ_cons, List.drop_zero, List.map_cons, List.map_nil, cat_i, cat_r, cat_n, Nat.reduceLeDiff, true_and, and_true, decide_true, Option.toList_some, Option.toList_none, and_self, Nat.le_refl, mj_vr, mj_zr, mj_th, wo_thr, mxl_0, mxl_1, mxl_2, mxl_3, mxl_4, mxl_5, mxl_6, mxl_7, mxl_8, mxl_9, mxl_10, mxl_11, mxl_12, mxl_13, mxl_14, mxl_15, mxl_16, mxl_17, mxl_18, mxl_19, mxl_20, mxl_21, mxl_22, mxl_23, mxl_24, mxl_25, mxl_26, mxl_27, mxl_28, mxl_29, mxl_30, mxl_31, mxl_32, mxl_33, mxl_34, mxl_35, mxl_36, mxl_37, mxl_38, mxl_39, mxl_40, mxl_41, mxl_42, mxl_43, mxl_44, mxl_45, mxl_46, mxl_47, mxl_48, mxl_49, mxl_50, mxl_51, mxl_52, mxl_53, mxl_54, mxl_55, mxl_56, mxl_57, mxl_58, mxl_59, mxl_60, mxl_61, mxl_62, mxl_63, mxl_64, mxl_65, mxl_66, mxl_67, mxl_68, mxl_69, mxl_70, mxl_71, mxl_72, mxl_73, mxl_74, mxl_75, mxl_76, mxl_77, mxl_78, mxl_79, mxl_80, mxl_81, mxl_82, mxl_83, mxl_84, mxl_85, mxl_86, mxl_136, mxl_137, mj_anew, a4, a5, a7, a7', mj_pf, mj_sf, mj_fit, g0, g0', c5, c6, not_false_eq_true, Option.isSome_some]
  have s1 := tg_newf (t := (2, 0)) h rfl (by rw [h1]; rfl) m (cs_rf ar 5 m (fun _ => none))
  have s2 := tg_set (t := (0, 0)) (e0 := c0_1 σ.1 m) s1 (by rw [tg_un (by simp)]; rfl) (ob_ σ.1 m (c0_w m) .null)
  have s3 : tg_R (fa σ.1 m) (hm_ ar σ.1 m (ob_ σ.1 m (c0_w m) .null) 0) (mj_up (mj_add τ m (cs_rf ar 5 m (fun _ => none))) σ.1 (ob_ σ.1 m (c0_w m) .null)) := by
    refine tg_sub s2 (fun t e ht => ?_)
    unfold hm_ at ht
    by_cases e0 : t = (0, 0)
    · rw [if_pos e0] at ht
      rw [e0, tg_ue]
      exact ht
    · rw [if_neg e0] at ht
      rw [tg_un e0]
      by_cases e2 : t = (2, 0)
      · rw [if_pos e2] at ht
        rw [e2, tg_ue]
        exact ht
      · rw [if_neg e2] at ht
        rw [tg_un e2]
        by_cases e1 : t = (1, 0) ∨ (9 ≤ t.1 ∧ t.1 ≤ 12)
        · rw [if_pos e1] at ht
          unfold hn_
          rw [if_neg e0]
          by_cases e3 : t = (1, 0)
          · rw [if_pos e3]
            rw [e3] at ht
            exact ht
          · rw [if_neg e3]
            have e4 := e1.resolve_left e3
            by_cases hb : t.2 < 2 * m - 1
            · rw [if_pos ⟨e4, hb⟩]
              exact ht
            · exfalso
              obtain ⟨a, b⟩ := t
              dsimp only at e4 hb
              have g : ∀ x : Option va_E, (if b < 2 * m - 1 then x else none) = none := fun x => if_neg hb
              have h3 : a = 9 ∨ a = 10 ∨ a = 11 ∨ a = 12 := by omega
              rcases h3 with rfl | rfl | rfl | rfl <;> (change (if b < 2 * m - 1 then _ else none) = some e at ht; rw [if_neg hb] at ht; cases ht)
        · rw [if_neg e1, if_neg (by omega)] at ht
          cases ht
  rw [h1]
  refine hm_loop (ar := ar) (B := σ.1) (m := m) (by omega) (by omega) (σ.2.1 + 6 + (2 * m - 1) + 208 * (2 * m - 1) + m) ?_ m 0 (by omega) _ s3 ?_ ?_
  · intro τ h h1 h2
    have g0 : τ.2.2 σ.1 = some (ob_ σ.1 m (c0_w m) .null) := tg_get (t := (0, 0)) h rfl
    have hlt : σ.1 < τ.1 := by rw [h1]; show _ < _ + _; omega
    have g1 : ∀ e1 e2 e3 e4 e5 e6 : va_E, (mj_add (mj_add (mj_add (mj_add (mj_add (mj_add τ 5 e1) 3 e2) 300 e3) 3 e4) 300 e5) 601 e6).2.2 σ.1 = some (ob_ σ.1 m (c0_w m) .null) := fun e1 e2 e3 e4 e5 e6 => by
      rw [add_ne (by simp only [add_1]; omega), add_ne (by simp only [add_1]; omega), add_ne (by simp only [add_1]; omega), add_ne (by simp only [add_1]; omega), add_ne (by simp only [add_1]; omega), add_ne (by omega)]
      exact g0
    simp only [r41_150, r41_151, r41_154, r41_155, wo_nx, wo_ret, wo_ite, wo_call, bk_inl, mj_lda, mj_ldi, mj_sti, mj_sta, mj_b2, mj_br1, mj_br2, mj_brn, mj_ir, mj_rr, mj_nx, mj_gf, mj_fld, mj_k2, mj_rc, mj_cls, mj_dup, mj_inc, List.getElem?_cons_zero, List.getElem?_cons_succ, List.length_cons, List.length_nil, List.set_cons_succ, List.set_cons_zero, Nat.reduceAdd, Nat.reduceLT, if_true, if_false, mj_iif, decide_eq_true_eq, List.take_succ_cons, List.take_zero, List.reverse_cons, List.reverse_nil, List.nil_append, List.cons_append, List.drop_succ_cons, List.drop_zero, List.map_cons, List.map_nil, cat_i, cat_r, cat_n, Nat.reduceLeDiff, true_and, and_true, decide_true, Option.toList_some, Option.toList_none, and_self, Nat.le_refl, mj_vr, mj_zr, mj_th, wo_thr, mxl_0, mxl_1, mxl_2, mxl_3, mxl_4, mxl_5, mxl_6, mxl_7, mxl_8, mxl_9, mxl_10, mxl_11, mxl_12, mxl_13, mxl_14, mxl_15, mxl_16, mxl_17, mxl_18, mxl_19, mxl_20, mxl_21, mxl_22, mxl_23, mxl_24, mxl_25, mxl_26, mxl_27, mxl_28, mxl_29, mxl_30, mxl_31, mxl_32, mxl_33, mxl_34, mxl_35, mxl_36, mxl_37, mxl_38, mxl_39, mxl_40, mxl_41, mxl_42, mxl_43, mxl_44, mxl_45, mxl_46, mxl_47, mxl_48, mxl_49, mxl_50, mxl_51, mxl_52, mxl_53, mxl_54, mxl_55, mxl_56, mxl_57, mxl_58, mxl_59, mxl_60, mxl_61, mxl_62, mxl_63, mxl_64, mxl_65, mxl_66, mxl_67, mxl_68, mxl_69, mxl_70, mxl_71, mxl_72, mxl_73, mxl_74, mxl_75, mxl_76, mxl_77, mxl_78, mxl_79, mxl_80, mxl_81, mxl_82, mxl_83, mxl_84, mxl_85, mxl_86, mxl_136, mxl_137, Nat.zero_le, ml_new]
    simp only [r41_158, r41_161, wo_nx, wo_ret, wo_ite, wo_call, bk_inl, mj_lda, mj_ldi, mj_sti, mj_sta, mj_b2, mj_br1, mj_br2, mj_brn, mj_ir, mj_rr, mj_nx, mj_gf, mj_fld, mj_k2, mj_rc, mj_cls, mj_dup, mj_inc, List.getElem?_cons_zero, List.getElem?_cons_succ, List.length_cons, List.length_nil, List.set_cons_succ, List.set_cons_zero, Nat.reduceAdd, Nat.reduceLT, if_true, if_false, mj_iif, decide_eq_true_eq, List.take_succ_cons, List.take_zero, List.reverse_cons, List.reverse_nil, List.nil_append, List.cons_append, List.drop_succ_cons, List.drop_zero, List.map_cons, List.map_nil, cat_i, cat_r, cat_n, Nat.reduceLeDiff, true_and, and_true, decide_true, Option.toList_some, Option.toList_none, and_self, Nat.le_refl, mj_vr, mj_zr, mj_th, wo_thr, mxl_0, mxl_1, mxl_2, mxl_3, mxl_4, mxl_5, mxl_6, mxl_7, mxl_8, mxl_9, mxl_10, mxl_11, mxl_12, mxl_13, mxl_14, mxl_15, mxl_16, mxl_17, mxl_18, mxl_19, mxl_20, mxl_21, mxl_22, mxl_23, mxl_24, mxl_25, mxl_26, mxl_27, mxl_28, mxl_29, mxl_30, mxl_31, mxl_32, mxl_33, mxl_34, mxl_35, mxl_36, mxl_37, mxl_38, mxl_39, mxl_40, mxl_41, mxl_42, mxl_43, mxl_44, mxl_45, mxl_46, mxl_47, mxl_48, mxl_49, mxl_50, mxl_51, mxl_52, mxl_53, mxl_54, mxl_55, mxl_56, mxl_57, mxl_58, mxl_59, mxl_60, mxl_61, mxl_62, mxl_63, mxl_64, mxl_65, mxl_66, mxl_67, mxl_68, mxl_69, mxl_70, mxl_71, mxl_72, mxl_73, mxl_74, mxl_75, mxl_76, mxl_77, mxl_78, mxl_79, mxl_80, mxl_81, mxl_82, mxl_83, mxl_84, mxl_85, mxl_86, mxl_136, mxl_137, mj_pf, mj_sf, mj_fit, g1, Option.isSome_some]
    refine hQ _ (hx_s (by omega) (by omega) rfl h h1) ?_ ?_
    · show τ.1 + 6 = mb_ σ.1 m m + 6
      rw [h1]
    · show τ.2.1 + 5 + 3 + 300 + 3 + 300 + 601 = _
      rw [h2]
      unfold c0_q
      omega
  · show τ.1 + 1 = _
    rw [h1]
    show _ = _ + 1 + 0 * _
    omega
  · show τ.2.1 + m = _
    rw [h2]
    omega
end CS6
