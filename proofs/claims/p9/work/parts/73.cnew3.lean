section CR
variable {ar : Nat → ClassId} {B m : Nat} {σ τ : mj_S} {o : va_E} {Q : (Option Value ⊕ String) → mj_S → Prop}
/-- the description while nodes are made: k of them -/
def hn_ (ar : Nat → ClassId) (B m : Nat) (o : va_E) (k : Nat) : tg_T → Option va_E := fun t => if t = (0, 0) then some o else if t = (1, 0) then some (cs_rf ar 7 (2 * m - 1) (cs_1 k (fa B m) 9)) else if (9 ≤ t.1 ∧ t.1 ≤ 12) ∧ t.2 < k then c0_h ar B m t else none
theorem cs_1_s {k N : Nat} {A : tg_T → Nat} {a : Nat} (ha : A (k, N) = a) : va_up (cs_1 N A k) N (some a) = cs_1 (N + 1) A k := by
  funext j
  unfold va_up cs_1
  by_cases hj : j = N
  · rw [if_pos hj, if_pos (by omega), hj, ha]
  · rw [if_neg hj]
    by_cases h2 : j < N
    · rw [if_pos h2, if_pos (by omega)]
    · rw [if_neg h2, if_neg (by omega)]
theorem hn_s {k : Nat} (hk : k < 2 * m - 1) (h : tg_R (fa B m) (hn_ ar B m o k) τ) (h1 : τ.1 = B + 2 + 4 * k) : tg_R (fa B m) (hn_ ar B m o (k + 1)) (mj_up (mj_add (mj_add (mj_add (mj_add τ 4 (.inr (5, [.ref (τ.1 + 1), .int 0, .int 0, .int 0]))) 4 (w_rw (τ.1 + 2) (τ.1 + 3))) 100 (w_z ar 100)) 100 (w_z ar 100)) (B + 1) (cs_rf ar 7 (2 * m - 1) (cs_1 (k + 1) (fa B m) 9))) := by
  have q := tg_adsR (A := fa B m) [((9, k), 4, .inr (5, [.ref (τ.1 + 1), .int 0, .int 0, .int 0])), ((10, k), 4, w_rw (τ.1 + 2) (τ.1 + 3)), ((11, k), 100, w_z ar 100), ((12, k), 100, w_z ar 100)] _ _ h (by
    have hz : ∀ a, 9 ≤ a → hn_ ar B m o k (a, k) = none := fun a ha => by
      unfold hn_
      rw [if_neg (fun e => by have := congrArg Prod.fst e; dsimp only at this; omega), if_neg (fun e => by have := congrArg Prod.fst e; dsimp only at this; omega), if_neg (by dsimp only; omega)]
    intro p hp
    simp only [List.mem_cons, List.not_mem_nil, or_false] at hp
    rcases hp with rfl | rfl | rfl | rfl <;> exact hz _ (by decide)) (by simp) (by
    intro j p hj
    rw [h1]
    match j, hj with
    | 0, hj => cases hj; show B + 2 + 4 * k = _; omega
    | 1, hj => cases hj; show B + 3 + 4 * k = _; omega
    | 2, hj => cases hj; show B + 4 + 4 * k = _; omega
    | 3, hj => cases hj; show B + 5 + 4 * k = _; omega
    | j + 4, hj => simp at hj)
  have q2 := tg_set (t := (1, 0)) (e0 := cs_rf ar 7 (2 * m - 1) (cs_1 k (fa B m) 9)) q (by
    rw [tg_ups_not _ _ (by
      intro p hp
      simp only [List.mem_cons, List.not_mem_nil, or_false] at hp
      rcases hp with rfl | rfl | rfl | rfl <;> simp)]
    rfl) (cs_rf ar 7 (2 * m - 1) (cs_1 (k + 1) (fa B m) 9))
  refine tg_sub q2 ?_
  intro t e ht
  obtain ⟨a, b⟩ := t
  unfold hn_ at ht
  by_cases t0 : (a, b) = ((0, 0) : tg_T)
  · rw [if_pos t0] at ht
    cases t0
    cases ht
    rw [tg_un (by simp), tg_ups_not _ _ (by
      intro p hp
      simp only [List.mem_cons, List.not_mem_nil, or_false] at hp
      rcases hp with rfl | rfl | rfl | rfl <;> simp)]
    rfl
  · rw [if_neg t0] at ht
    by_cases t1 : (a, b) = ((1, 0) : tg_T)
    · rw [if_pos t1] at ht
      rw [t1, tg_ue]
      exact ht
    · rw [if_neg t1] at ht
      rw [tg_un t1]
      by_cases hc : (9 ≤ (a, b).1 ∧ (a, b).1 ≤ 12) ∧ (a, b).2 < k + 1
      · rw [if_pos hc] at ht
        dsimp only at hc
        by_cases hb : b = k
        · subst hb
          have e10 : fa B m (10, b) = τ.1 + 1 := by rw [h1]; show B + 3 + 4 * b = _; omega
          have e11 : fa B m (11, b) = τ.1 + 2 := by rw [h1]; show B + 4 + 4 * b = _; omega
          have e12 : fa B m (12, b) = τ.1 + 3 := by rw [h1]; show B + 5 + 4 * b = _; omega
          have h3 : a = 9 ∨ a = 10 ∨ a = 11 ∨ a = 12 := by omega
          rcases h3 with rfl | rfl | rfl | rfl
          · have g : c0_h ar B m (9, b) = some (.inr (5, [.ref (fa B m (10, b)), .int 0, .int 0, .int 0])) := if_pos hk
            rw [g, e10] at ht
            cases ht
            exact tg_ups_mem (n := 4) _ _ (by simp) (by simp)
          · have g : c0_h ar B m (10, b) = some (.inr (7, [.ref (fa B m (11, b)), .ref (fa B m (12, b)), .int 0, .int 0])) := if_pos hk
            rw [g, e11, e12] at ht
            cases ht
            exact tg_ups_mem (n := 4) _ _ (by simp) (by simp)
          · have g : c0_h ar B m (11, b) = some (w_z ar 100) := if_pos hk
            rw [g] at ht
            cases ht
            exact tg_ups_mem (n := 100) _ _ (by simp) (by simp)
          · have g : c0_h ar B m (12, b) = some (w_z ar 100) := if_pos hk
            rw [g] at ht
            cases ht
            exact tg_ups_mem (n := 100) _ _ (by simp) (by simp)
        · rw [tg_ups_not _ _ (by
            intro p hp
            simp only [List.mem_cons, List.not_mem_nil, or_false] at hp
            rcases hp with rfl | rfl | rfl | rfl <;> (intro e; have := congrArg Prod.snd e; dsimp only at this; omega))]
          unfold hn_
          rw [if_neg t0, if_neg t1, if_pos (by dsimp only; omega)]
          exact ht
      · rw [if_neg hc] at ht
        cases ht
theorem hn_loop {v l2 : Option Value} {w : Int32} {f3 f4 : Value} (hm : 2 ≤ m) (hm5 : m ≤ 5) (q0 : Nat) (hQ : ∀ τ, tg_R (fa B m) (hn_ ar B m (.inr (9, [.int (nI m), .int (nI (2 * m - 1)), .int w, .ref (B + 1), f3, f4])) (2 * m - 1)) τ → τ.1 = B + 2 + 4 * (2 * m - 1) → τ.2.1 = q0 + 208 * (2 * m - 1) → mj_wp (tb ar) 41 (102, [some (.ref B), v, l2, some (.int (nI (2 * m - 1)))], [], τ) Q) : ∀ (j k : Nat), k + j = 2 * m - 1 → ∀ τ, tg_R (fa B m) (hn_ ar B m (.inr (9, [.int (nI m), .int (nI (2 * m - 1)), .int w, .ref (B + 1), f3, f4])) k) τ → τ.1 = B + 2 + 4 * k → τ.2.1 = q0 + 208 * k → mj_wp (tb ar) 41 (75, [some (.ref B), v, l2, some (.int (nI k))], [], τ) Q
  | 0, k, hk, τ, h, h1, h2 => by
    have h' : k = 2 * m - 1 := by omega
    subst h'
    have g0 : τ.2.2 B = some (.inr (9, [.int (nI m), .int (nI (2 * m - 1)), .int w, .ref (B + 1), f3, f4])) := tg_get (t := (0, 0)) h rfl
    have c1 : nI (2 * m - 1) ≤ nI (2 * m - 1) := nI_le (Nat.le_refl _) (by omega)
    simp only [r41_75, r41_76, r41_77, r41_80, wo_nx, wo_ret, wo_ite, wo_call, bk_inl, mj_lda, mj_ldi, mj_sti, mj_sta, mj_b2, mj_br1, mj_br2, mj_brn, mj_ir, mj_rr, mj_nx, mj_gf, mj_fld, mj_k2, mj_rc, mj_cls, mj_dup, mj_inc, List.getElem?_cons_zero, List.getElem?_cons_succ, List.length_cons, List.length_nil, List.set_cons_succ, List.set_cons_zero, Nat.reduceAdd, Nat.reduceLT, if_true, if_false, mj_iif, decide_eq_true_eq, List.take_succ_cons, List.take_zero, List.reverse_cons, List.reverse_nil, List.nil_append, List.cons_append, List.drop_succ_cons, List.drop_zero, List.map_cons, List.map_nil, cat_i, cat_r, cat_n, Nat.reduceLeDiff, true_and, and_true, decide_true, Option.toList_some, Option.toList_none, and_self, Nat.le_refl, mj_vr, mj_zr, mj_th, wo_thr, mxl_0, mxl_1, mxl_2, mxl_3, mxl_4, mxl_5, mxl_6, mxl_7, mxl_8, mxl_9, mxl_10, mxl_11, mxl_12, mxl_13, mxl_14, mxl_15, mxl_16, mxl_17, mxl_18, mxl_19, mxl_20, mxl_21, mxl_22, mxl_23, mxl_24, mxl_25, mxl_26, mxl_27, mxl_28, mxl_29, mxl_30, mxl_31, mxl_32, mxl_33, mxl_34, mxl_35, mxl_36, mxl_37, mxl_38, mxl_39, mxl_40, mxl_41, mxl_42, mxl_43, mxl_44, mxl_45, mxl_46, mxl_47, mxl_48, mxl_49, mxl_50, mxl_51, mxl_52, mxl_53, mxl_54, mxl_55, mxl_56, mxl_57, mxl_58, mxl_59, mxl_60, mxl_61, mxl_62, mxl_63, mxl_64, mxl_65, mxl_66, mxl_67, mxl_68, mxl_69, mxl_70, mxl_71, mxl_72, mxl_73, mxl_74, mxl_75, mxl_76, mxl_77, mxl_78, mxl_79, mxl_80, mxl_81, mxl_82, mxl_83, mxl_84, mxl_85, mxl_86, mxl_136, mxl_137, g0, c1]
    exact hQ τ h h1 h2
  | j + 1, k, hk, τ, h, h1, h2 => by
    have g0 : τ.2.2 B = some (.inr (9, [.int (nI m), .int (nI (2 * m - 1)), .int w, .ref (B + 1), f3, f4])) := tg_get (t := (0, 0)) h rfl
    have g1 : τ.2.2 (B + 1) = some (cs_rf ar 7 (2 * m - 1) (cs_1 k (fa B m) 9)) := tg_get (t := (1, 0)) h rfl
    have c1 : ¬ nI (2 * m - 1) ≤ nI k := nI_ge (by omega) (by omega)
    have hix : mj_ix (nI k) (2 * m - 1) = true := ix_of (by omega) (by omega)
    have hcl : (nI k).toNatClampNeg = k := nI_clamp (by omega)
    have a5 : (5 : Nat) ∈ mj_ak (tb ar) := (show 5 ∈ ([3, 4, 5, 7] : List Nat) from by decide)
    have a7 : mj_ar (tb ar) (2 + 5) = ar 7 := rfl
    have p0 : ∀ e1 e2 e3 e4 : va_E, (mj_add (mj_add (mj_add (mj_add τ 4 e1) 4 e2) 100 e3) 100 e4).2.2 τ.1 = some e1 := fun e1 e2 e3 e4 => by
      rw [add_ne (by simp only [add_1]; omega), add_ne (by simp only [add_1]; omega), add_ne (by simp only [add_1]; omega)]
      exact add_eq
    have p1 : ∀ e1 e2 e3 e4 : va_E, (mj_add (mj_add (mj_add (mj_add τ 4 e1) 4 e2) 100 e3) 100 e4).2.2 (B + 1) = some (cs_rf ar 7 (2 * m - 1) (cs_1 k (fa B m) 9)) := fun e1 e2 e3 e4 => by
      rw [add_ne (by simp only [add_1]; omega), add_ne (by simp only [add_1]; omega), add_ne (by simp only [add_1]; omega), add_ne (by omega)]
      exact g1
    have e9 : fa B m (9, k) = τ.1 := by rw [h1]; rfl
    simp only [r41_75, r41_76, r41_77, r41_80, r41_83, r41_84, r41_87, r41_88, r41_91, r41_92, wo_nx, wo_ret, wo_ite, wo_call, bk_inl, mj_lda, mj_ldi, mj_sti, mj_sta, mj_b2, mj_br1, mj_br2, mj_brn, mj_ir, mj_rr, mj_nx, mj_gf, mj_fld, mj_k2, mj_rc, mj_cls, mj_dup, mj_inc, List.getElem?_cons_zero, List.getElem?_cons_succ, List.length_cons, List.length_nil, List.set_cons_succ, List.set_cons_zero, Nat.reduceAdd, Nat.reduceLT, if_true, if_false, mj_iif, decide_eq_true_eq, List.take_succ_cons, List.take_zero, List.reverse_cons, List.reverse_nil, List.nil_append, List.cons_append, List.drop_succ_cons, List.drop_zero, List.map_cons, List.map_nil, cat_i, cat_r, cat_n, Nat.reduceLeDiff, true_and, and_true, decide_true, Option.toList_some, Option.toList_none, and_self, Nat.le_refl, mj_vr, mj_zr, mj_th, wo_thr, mxl_0, mxl_1, mxl_2, mxl_3, mxl_4, mxl_5, mxl_6, mxl_7, mxl_8, mxl_9, mxl_10, mxl_11, mxl_12, mxl_13, mxl_14, mxl_15, mxl_16, mxl_17, mxl_18, mxl_19, mxl_20, mxl_21, mxl_22, mxl_23, mxl_24, mxl_25, mxl_26, mxl_27, mxl_28, mxl_29, mxl_30, mxl_31, mxl_32, mxl_33, mxl_34, mxl_35, mxl_36, mxl_37, mxl_38, mxl_39, mxl_40, mxl_41, mxl_42, mxl_43, mxl_44, mxl_45, mxl_46, mxl_47, mxl_48, mxl_49, mxl_50, mxl_51, mxl_52, mxl_53, mxl_54, mxl_55, mxl_56, mxl_57, mxl_58, mxl_59, mxl_60, mxl_61, mxl_62, mxl_63, mxl_64, mxl_65, mxl_66, mxl_67, mxl_68, mxl_69, mxl_70, mxl_71, mxl_72, mxl_73, mxl_74, mxl_75, mxl_76, mxl_77, mxl_78, mxl_79, mxl_80, mxl_81, mxl_82, mxl_83, mxl_84, mxl_85, mxl_86, mxl_136, mxl_137, g0, c1, Nat.zero_le, n_new]
    simp only [r41_95, r41_96, r41_99, wo_nx, wo_ret, wo_ite, wo_call, bk_inl, mj_lda, mj_ldi, mj_sti, mj_sta, mj_b2, mj_br1, mj_br2, mj_brn, mj_ir, mj_rr, mj_nx, mj_gf, mj_fld, mj_k2, mj_rc, mj_cls, mj_dup, mj_inc, List.getElem?_cons_zero, List.getElem?_cons_succ, List.length_cons, List.length_nil, List.set_cons_succ, List.set_cons_zero, Nat.reduceAdd, Nat.reduceLT, if_true, if_false, mj_iif, decide_eq_true_eq, List.take_succ_cons, List.take_zero, List.reverse_cons, List.reverse_nil, List.nil_append, List.cons_append, List.drop_succ_cons, List.drop_zero, List.map_cons, List.map_nil, cat_i, cat_r, cat_n, Nat.reduceLeDiff, true_and, and_true, decide_true, Option.toList_some, Option.toList_none, and_self, Nat.le_refl, mj_vr, mj_zr, mj_th, wo_thr, mxl_0, mxl_1, mxl_2, mxl_3, mxl_4, mxl_5, mxl_6, mxl_7, mxl_8, mxl_9, mxl_10, mxl_11, mxl_12, mxl_13, mxl_14, mxl_15, mxl_16, mxl_17, mxl_18, mxl_19, mxl_20, mxl_21, mxl_22, mxl_23, mxl_24, mxl_25, mxl_26, mxl_27, mxl_28, mxl_29, mxl_30, mxl_31, mxl_32, mxl_33, mxl_34, mxl_35, mxl_36, mxl_37, mxl_38, mxl_39, mxl_40, mxl_41, mxl_42, mxl_43, mxl_44, mxl_45, mxl_46, mxl_47, mxl_48, mxl_49, mxl_50, mxl_51, mxl_52, mxl_53, mxl_54, mxl_55, mxl_56, mxl_57, mxl_58, mxl_59, mxl_60, mxl_61, mxl_62, mxl_63, mxl_64, mxl_65, mxl_66, mxl_67, mxl_68, mxl_69, mxl_70, mxl_71, mxl_72, mxl_73, mxl_74, mxl_75, mxl_76, mxl_77, mxl_78, mxl_79, mxl_80, mxl_81, mxl_82, mxl_83, mxl_84, mxl_85, mxl_86, mxl_136, mxl_137, mj_aast, p0, p1, cs_rf, a5, a7, hix, hcl, nI_1, cs_1_s e9]
    refine hn_loop hm hm5 q0 hQ j (k + 1) (by omega) _ (hn_s (by omega) h h1) ?_ ?_
    · show τ.1 + 1 + 1 + 1 + 1 = _
      omega
    · show τ.2.1 + 4 + 4 + 100 + 100 = _
      omega
end CR
