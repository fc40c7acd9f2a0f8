section CS5
variable {ar : Nat → ClassId} {B m : Nat} {σ τ : mj_S} {Q : (Option Value ⊕ String) → mj_S → Prop}
abbrev ob_ (B m : Nat) (w : Int32) (f5 : Value) : va_E := .inr (9, [.int (nI m), .int (nI (2 * m - 1)), .int w, .ref (B + 1), .ref (B + 2 + 4 * (2 * m - 1)), f5])
theorem hm_loop {v l2 : Option Value} {w : Int32} {f5 : Value} (hm : 2 ≤ m) (hm5 : m ≤ 5) (q0 : Nat) (hQ : ∀ τ, tg_R (fa B m) (hm_ ar B m (ob_ B m w f5) m) τ → τ.1 = mb_ B m m → τ.2.1 = q0 + (761 + 205 * (2 * m - 1)) * m → mj_wp (tb ar) 41 (150, [some (.ref B), v, l2, some (.int (nI m))], [], τ) Q) : ∀ (j k : Nat), k + j = m → ∀ τ, tg_R (fa B m) (hm_ ar B m (ob_ B m w f5) k) τ → τ.1 = mb_ B m k → τ.2.1 = q0 + (761 + 205 * (2 * m - 1)) * k → mj_wp (tb ar) 41 (115, [some (.ref B), v, l2, some (.int (nI k))], [], τ) Q
  | 0, k, hk, τ, h, h1, h2 => by
    have h' : k = m := by omega
    subst h'
    have g0 : τ.2.2 B = some (ob_ B k w f5) := tg_get (t := (0, 0)) h rfl
    have c1 : nI k ≤ nI k := nI_le (Nat.le_refl _) (by omega)
    simp only [r41_115, r41_116, r41_117, r41_120, wo_nx, wo_ret, wo_ite, wo_call, bk_inl, mj_lda, mj_ldi, mj_sti, mj_sta, mj_b2, mj_br1, mj_br2, mj_brn, mj_ir, mj_rr, mj_nx, mj_gf, mj_fld, mj_k2, mj_rc, mj_cls, mj_dup, mj_inc, List.getElem?_cons_zero, List.getElem?_cons_succ, List.length_cons, List.length_nil, List.set_cons_succ, List.set_cons_zero, Nat.reduceAdd, Nat.reduceLT, if_true, if_false, mj_iif, decide_eq_true_eq, List.take_succ_cons, List.take_zero, List.reverse_cons, List.reverse_nil, List.nil_append, List.cons_append, List.drop_succ_cons, List.drop_zero, List.map_cons, List.map_nil, cat_i, cat_r, cat_n, Nat.reduceLeDiff, true_and, and_true, decide_true, Option.toList_some, Option.toList_none, and_self, Nat.le_refl, mj_vr, mj_zr, mj_th, wo_thr, mxl_0, mxl_1, mxl_2, mxl_3, mxl_4, mxl_5, mxl_6, mxl_7, mxl_8, mxl_9, mxl_10, mxl_11, mxl_12, mxl_13, mxl_14, mxl_15, mxl_16, mxl_17, mxl_18, mxl_19, mxl_20, mxl_21, mxl_22, mxl_23, mxl_24, mxl_25, mxl_26, mxl_27, mxl_28, mxl_29, mxl_30, mxl_31, mxl_32, mxl_33, mxl_34, mxl_35, mxl_36, mxl_37, mxl_38, mxl_39, mxl_40, mxl_41, mxl_42, mxl_43, mxl_44, mxl_45, mxl_46, mxl_47, mxl_48, mxl_49, mxl_50, mxl_51, mxl_52, mxl_53, mxl_54, mxl_55, mxl_56, mxl_57, mxl_58, mxl_59, mxl_60, mxl_61, mxl_62, mxl_63, mxl_64, mxl_65, mxl_66, mxl_67, mxl_68, mxl_69, mxl_70, mxl_71, mxl_72, mxl_73, mxl_74, mxl_75, mxl_76, mxl_77, mxl_78, mxl_79, mxl_80, mxl_81, mxl_82, mxl_83, mxl_84, mxl_85, mxl_86, mxl_136, mxl_137, g0, c1]
    exact hQ τ h h1 h2
  | j + 1, k, hk, τ, h, h1, h2 => by
    have g0 : τ.2.2 B = some (ob_ B m w f5) := tg_get (t := (0, 0)) h rfl
    have g2 : τ.2.2 (B + 2 + 4 * (2 * m - 1)) = some (cs_rf ar 5 m (cs_1 k (fa B m) 13)) := tg_get (t := (2, 0)) h rfl
    have c1 : ¬ nI m ≤ nI k := nI_ge (by omega) (by omega)
    have hix : mj_ix (nI k) m = true := ix_of (by omega) (by omega)
    have hcl : (nI k).toNatClampNeg = k := nI_clamp (by omega)
    have a5 : (3 : Nat) ∈ mj_ak (tb ar) := (show 3 ∈ ([3, 4, 5, 7] : List Nat) from by decide)
    have a7 : mj_ar (tb ar) (2 + 3) = ar 5 := rfl
    have hC : B + 2 + 4 * (2 * m - 1) < τ.1 := by rw [h1]; show _ < _ + 1 + _; omega
    have hB : B < τ.1 := by omega
    have x1 : ∀ e : va_E, (mj_ads (mj_add τ 3 e) (mn_c ar τ.1 (nI m) (2 * m - 1))).1 = τ.1 + 14 := fun e => by rw [ads_1, add_1]; rfl
    have gB : ∀ e : va_E, (mj_add τ 3 e).2.2 B = some (ob_ B m w f5) := fun e => by rw [add_ne (by omega)]; exact g0
    have p0 : ∀ e y : va_E, (mj_up (ld_ad ar (mj_ads (mj_add τ 3 e) (mn_c ar τ.1 (nI m) (2 * m - 1))) (2 * m - 1)) (τ.1 + 13) y).2.2 τ.1 = some e := fun e y => by
      rw [up_ne (by omega), ld_old (by rw [x1]; omega)]
      exact ads_at0
    have p1 : ∀ e y : va_E, (mj_up (ld_ad ar (mj_ads (mj_add τ 3 e) (mn_c ar τ.1 (nI m) (2 * m - 1))) (2 * m - 1)) (τ.1 + 13) y).2.2 (B + 2 + 4 * (2 * m - 1)) = some (cs_rf ar 5 m (cs_1 k (fa B m) 13)) := fun e y => by
      rw [up_ne (by omega), ld_old (by rw [x1]; omega), ads_old _ _ (by rw [add_1]; omega), add_ne (by omega)]
      exact g2
    have e13 : fa B m (13, k) = τ.1 := by rw [h1]; rfl
    simp only [r41_115, r41_116, r41_117, r41_120, r41_123, r41_124, r41_127, r41_128, r41_131, r41_132, r41_133, r41_136, r41_137, r41_140, wo_nx, wo_ret, wo_ite, wo_call, bk_inl, mj_lda, mj_ldi, mj_sti, mj_sta, mj_b2, mj_br1, mj_br2, mj_brn, mj_ir, mj_rr, mj_nx, mj_gf, mj_fld, mj_k2, mj_rc, mj_cls, mj_dup, mj_inc, List.getElem?_cons_zero, List.getElem?_cons_succ, List.length_cons, List.length_nil, List.set_cons_succ, List.set_cons_zero, Nat.reduceAdd, Nat.reduceLT, if_true, if_false, mj_iif, decide_eq_true_eq, List.take_succ_cons, List.take_zero, List.reverse_cons, List.reverse_nil, List.nil_append, List.cons_append, List.drop_succ_cons, List.drop_zero, List.map_cons, List.map_nil, cat_i, cat_r, cat_n, Nat.reduceLeDiff, true_and, and_true, decide_true, Option.toList_some, Option.toList_none, and_self, Nat.le_refl, mj_vr, mj_zr, mj_th, wo_thr, mxl_0, mxl_1, mxl_2, mxl_3, mxl_4, mxl_5, mxl_6, mxl_7, mxl_8, mxl_9, mxl_10, mxl_11, mxl_12, mxl_13, mxl_14, mxl_15, mxl_16, mxl_17, mxl_18, mxl_19, mxl_20, mxl_21, mxl_22, mxl_23, mxl_24, mxl_25, mxl_26, mxl_27, mxl_28, mxl_29, mxl_30, mxl_31, mxl_32, mxl_33, mxl_34, mxl_35, mxl_36, mxl_37, mxl_38, mxl_39, mxl_40, mxl_41, mxl_42, mxl_43, mxl_44, mxl_45, mxl_46, mxl_47, mxl_48, mxl_49, mxl_50, mxl_51, mxl_52, mxl_53, mxl_54, mxl_55, mxl_56, mxl_57, mxl_58, mxl_59, mxl_60, mxl_61, mxl_62, mxl_63, mxl_64, mxl_65, mxl_66, mxl_67, mxl_68, mxl_69, mxl_70, mxl_71, mxl_72, mxl_73, mxl_74, mxl_75, mxl_76, mxl_77, mxl_78, mxl_79, mxl_80, mxl_81, mxl_82, mxl_83, mxl_84, mxl_85, mxl_86, mxl_136, mxl_137, g0, gB, c1, Nat.zero_le, mn_new (show 2 * m - 1 ≤ 9 by omega)]
    have p1' := p1
    unfold cs_rf at p1'
    rw [r41_143]
    simp only [mj_aast, p0, p1', a5, a7, hix, hcl, cs_1_s e13, r41_144, r41_147, wo_nx, wo_ret, wo_ite, wo_call, bk_inl, mj_lda, mj_ldi, mj_sti, mj_sta, mj_b2, mj_br1, mj_br2, mj_brn, mj_ir, mj_rr, mj_nx, mj_gf, mj_fld, mj_k2, mj_rc, mj_cls, mj_dup, mj_inc, List.getElem?_cons_zero, List.getElem?_cons_succ, List.length_cons, List.length_nil, List.set_cons_succ, List.set_cons_zero, Nat.reduceAdd, Nat.reduceLT, if_true, if_false, mj_iif, decide_eq_true_eq, List.take_succ_cons, List.take_zero, List.reverse_cons, List.reverse_nil, List.nil_append, List.cons_append, List.drop_succ_cons, List.drop_zero, List.map_cons, List.map_nil, cat_i, cat_r, cat_n, Nat.reduceLeDiff, true_and, and_true, decide_true, Option.toList_some, Option.toList_none, and_self, Nat.le_refl, mj_vr, mj_zr, mj_th, wo_thr, mxl_0, mxl_1, mxl_2, mxl_3, mxl_4, mxl_5, mxl_6, mxl_7, mxl_8, mxl_9, mxl_10, mxl_11, mxl_12, mxl_13, mxl_14, mxl_15, mxl_16, mxl_17, mxl_18, mxl_19, mxl_20, mxl_21, mxl_22, mxl_23, mxl_24, mxl_25, mxl_26, mxl_27, mxl_28, mxl_29, mxl_30, mxl_31, mxl_32, mxl_33, mxl_34, mxl_35, mxl_36, mxl_37, mxl_38, mxl_39, mxl_40, mxl_41, mxl_42, mxl_43, mxl_44, mxl_45, mxl_46, mxl_47, mxl_48, mxl_49, mxl_50, mxl_51, mxl_52, mxl_53, mxl_54, mxl_55, mxl_56, mxl_57, mxl_58, mxl_59, mxl_60, mxl_61, mxl_62, mxl_63, mxl_64, mxl_65, mxl_66, mxl_67, mxl_68, mxl_69, mxl_70, mxl_71, mxl_72, mxl_73, mxl_74, mxl_75, mxl_76, mxl_77, mxl_78, mxl_79, mxl_80, mxl_81, mxl_82, mxl_83, mxl_84, mxl_85, mxl_86, mxl_136, mxl_137, nI_1]
    refine hm_loop hm hm5 q0 hQ j (k + 1) (by omega) _ (hm_s hm5 (by omega) h h1) ?_ ?_
    · show (ld_ad ar (mj_ads (mj_add τ 3 (mn_o τ.1)) (mn_c ar τ.1 (nI m) (2 * m - 1))) (2 * m - 1)).1 = _
      rw [ld_1, x1, h1]
      show mb_ B m k + 14 + 3 * (2 * m - 1) = B + 2 + 4 * (2 * m - 1) + 1 + (k + 1) * (14 + 3 * (2 * m - 1))
      rw [Nat.add_mul]
      show B + 2 + 4 * (2 * m - 1) + 1 + k * (14 + 3 * (2 * m - 1)) + 14 + 3 * (2 * m - 1) = _
      omega
    · show (ld_ad ar (mj_ads (mj_add τ 3 (mn_o τ.1)) (mn_c ar τ.1 (nI m) (2 * m - 1))) (2 * m - 1)).2.1 = _
      rw [ld_21, ads_21]
      show τ.2.1 + 3 + (8 + (100 + (100 + (104 + (3 + (25 + (13 + (100 + (100 + (100 + (100 + (5 + (2 * m - 1 + 0))))))))))))) + 204 * (2 * m - 1) = _
      rw [h2, Nat.mul_add]
      omega
abbrev mt_ (B m : Nat) : Nat := mb_ B m m
theorem hx_s {w : Int32} (hm : 2 ≤ m) (hm5 : m ≤ 5) (hw : w = (1 <<< (nI (2 * m - 1) &&& 31)) - (1 <<< (nI m &&& 31))) (h : tg_R (fa B m) (hm_ ar B m (ob_ B m w .null) m) τ) (h1 : τ.1 = mt_ B m) : tg_R (fa B m) (c0_h ar B m) (mj_up (mj_add (mj_add (mj_add (mj_add (mj_add (mj_add τ 5 (.inr (2, [.ref (τ.1 + 1), .ref (τ.1 + 3), .ref (τ.1 + 5), .int 0, .int 0]))) 3 (.inr (6, [.ref (τ.1 + 2), .int 0, .int 0]))) 300 (cs_rf ar 6 300 (fun _ => none))) 3 (.inr (6, [.ref (τ.1 + 4), .int 0, .int 0]))) 300 (cs_rf ar 6 300 (fun _ => none))) 601 (cs_rf ar 6 601 (fun _ => none))) B (ob_ B m w (.ref τ.1))) := by
  have hz : ∀ a, 3 ≤ a → a ≤ 8 → hm_ ar B m (ob_ B m w .null) m (a, 0) = none := fun a ha ha2 => by
    unfold hm_
    rw [if_neg (fun e => by have := congrArg Prod.fst e; dsimp only at this; omega), if_neg (fun e => by have := congrArg Prod.fst e; dsimp only at this; omega), if_neg (fun e => e.elim (fun e => by have := congrArg Prod.fst e; dsimp only at this; omega) (fun e => by dsimp only at e; omega)), if_neg (by dsimp only; omega)]
  have q := tg_adsR (A := fa B m) [((3, 0), 5, .inr (2, [.ref (τ.1 + 1), .ref (τ.1 + 3), .ref (τ.1 + 5), .int 0, .int 0])), ((4, 0), 3, .inr (6, [.ref (τ.1 + 2), .int 0, .int 0])), ((5, 0), 300, cs_rf ar 6 300 (fun _ => none)), ((6, 0), 3, .inr (6, [.ref (τ.1 + 4), .int 0, .int 0])), ((7, 0), 300, cs_rf ar 6 300 (fun _ => none)), ((8, 0), 601, cs_rf ar 6 601 (fun _ => none))] _ _ h (by
    intro p hp
    simp only [List.mem_cons, List.not_mem_nil, or_false] at hp
    rcases hp with rfl | rfl | rfl | rfl | rfl | rfl <;> exact hz _ (by decide) (by decide)) (by simp) (by
    intro j p hj
    rw [h1]
    match j, hj with
    | 0, hj => cases hj; rfl
    | 1, hj => cases hj; rfl
    | 2, hj => cases hj; rfl
    | 3, hj => cases hj; rfl
    | 4, hj => cases hj; rfl
    | 5, hj => cases hj; rfl
    | j + 6, hj => simp at hj)
  have nin : ∀ (a b : Nat), (a < 3 ∨ 8 < a ∨ b ≠ 0) → ∀ (e1 e2 e3 e4 e5 e6 : va_E), ∀ p ∈ ([((3, 0), 5, e1), ((4, 0), 3, e2), ((5, 0), 300, e3), ((6, 0), 3, e4), ((7, 0), 300, e5), ((8, 0), 601, e6)] : List (tg_T × Nat × va_E)), p.1 ≠ (a, b) := by
    intro a b hab e1 e2 e3 e4 e5 e6 p hp e
    simp only [List.mem_cons, List.not_mem_nil, or_false] at hp
    rcases hp with rfl | rfl | rfl | rfl | rfl | rfl <;> (cases e; omega)
  have q2 := tg_set (t := (0, 0)) (e0 := ob_ B m w .null) q (by
    rw [tg_ups_not _ _ (nin 0 0 (Or.inl (by decide)) _ _ _ _ _ _)]
    rfl) (ob_ B m w (.ref τ.1))
  refine tg_sub q2 ?_
  intro t e ht
  obtain ⟨a, b⟩ := t
  have f3 : fa B m (3, 0) = τ.1 := by rw [h1]; rfl
  have f4 : fa B m (4, 0) = τ.1 + 1 := by rw [h1]; rfl
  have f5 : fa B m (5, 0) = τ.1 + 2 := by rw [h1]; rfl
  have f6 : fa B m (6, 0) = τ.1 + 3 := by rw [h1]; rfl
  have f7 : fa B m (7, 0) = τ.1 + 4 := by rw [h1]; rfl
  have f8 : fa B m (8, 0) = τ.1 + 5 := by rw [h1]; rfl
  by_cases t0 : (a, b) = ((0, 0) : tg_T)
  · cases t0
    have g : c0_h ar B m (0, 0) = some (.inr (9, [.int (nI m), .int (nI (2 * m - 1)), .int ((1 <<< (nI (2 * m - 1) &&& 31)) - (1 <<< (nI m &&& 31))), .ref (fa B m (1, 0)), .ref (fa B m (2, 0)), .ref (fa B m (3, 0))])) := rfl
    rw [g, f3, ← hw] at ht
    rw [tg_ue]
    exact ht
  · rw [tg_un t0]
    by_cases h38 : 3 ≤ a ∧ a ≤ 8
    · by_cases hb : b = 0
      · subst hb
        have h3 : a = 3 ∨ a = 4 ∨ a = 5 ∨ a = 6 ∨ a = 7 ∨ a = 8 := by omega
        rcases h3 with rfl | rfl | rfl | rfl | rfl | rfl
        · have g : c0_h ar B m (3, 0) = some (.inr (2, [.ref (fa B m (4, 0)), .ref (fa B m (6, 0)), .ref (fa B m (8, 0)), .int 0, .int 0])) := rfl
          rw [g, f4, f6, f8] at ht
          cases ht
          exact tg_ups_mem (n := 5) _ _ (by simp) (by simp)
        · have g : c0_h ar B m (4, 0) = some (.inr (6, [.ref (fa B m (5, 0)), .int 0, .int 0])) := rfl
          rw [g, f5] at ht
          cases ht
          exact tg_ups_mem (n := 3) _ _ (by simp) (by simp)
        · have g : c0_h ar B m (5, 0) = some (cs_rf ar 6 300 (fun _ => none)) := rfl
          rw [g] at ht
          cases ht
          exact tg_ups_mem (n := 300) _ _ (by simp) (by simp)
        · have g : c0_h ar B m (6, 0) = some (.inr (6, [.ref (fa B m (7, 0)), .int 0, .int 0])) := rfl
          rw [g, f7] at ht
          cases ht
          exact tg_ups_mem (n := 3) _ _ (by simp) (by simp)
        · have g : c0_h ar B m (7, 0) = some (cs_rf ar 6 300 (fun _ => none)) := rfl
          rw [g] at ht
          cases ht
          exact tg_ups_mem (n := 300) _ _ (by simp) (by simp)
        · have g : c0_h ar B m (8, 0) = some (cs_rf ar 6 601 (fun _ => none)) := rfl
          rw [g] at ht
          cases ht
          exact tg_ups_mem (n := 601) _ _ (by simp) (by simp)
      · exfalso
        have h3 : a = 3 ∨ a = 4 ∨ a = 5 ∨ a = 6 ∨ a = 7 ∨ a = 8 := by omega
        have g : ∀ x : Option va_E, (if b = 0 then x else none) = none := fun x => if_neg hb
        rcases h3 with rfl | rfl | rfl | rfl | rfl | rfl <;> (change (if b = 0 then _ else none) = some e at ht; rw [if_neg hb] at ht; cases ht)
    · rw [tg_ups_not _ _ (nin a b (by omega) _ _ _ _ _ _)]
      unfold hm_
      rw [if_neg t0]
      by_cases t2 : (a, b) = ((2, 0) : tg_T)
      · cases t2
        have g : c0_h ar B m (2, 0) = some (cs_rf ar 5 m (cs_1 m (fa B m) 13)) := rfl
        rw [g] at ht
        rw [if_pos rfl]
        exact ht
      · rw [if_neg t2]
        by_cases t1 : (a, b) = ((1, 0) : tg_T) ∨ (9 ≤ (a, b).1 ∧ (a, b).1 ≤ 12)
        · rw [if_pos t1]
          exact ht
        · rw [if_neg t1]
          dsimp only at t1
          have hdom : (13 ≤ a ∧ a ≤ 26 ∧ b < m) ∨ (27 ≤ a ∧ a ≤ 29 ∧ b / 16 < m) := by
            have hbz : a ≤ 2 → b = 0 → False := fun h2 hb0 => by
              subst hb0
              have h3 : a = 0 ∨ a = 1 ∨ a = 2 := by omega
              rcases h3 with rfl | rfl | rfl
              · exact t0 rfl
              · exact t1 (Or.inl rfl)
              · exact t2 rfl
            have hnone : ∀ x : Option va_E, b ≠ 0 → (if b = 0 then x else none) = none := fun x hb => if_neg hb
            rcases Nat.lt_or_ge a 3 with ha | ha
            · exfalso
              have hb0 : b ≠ 0 := fun q => hbz (by omega) q
              have h3 : a = 0 ∨ a = 1 ∨ a = 2 := by omega
              rcases h3 with rfl | rfl | rfl
              · change (if b = 0 then _ else none) = some e at ht; rw [if_neg hb0] at ht; cases ht
              · change (if b = 0 then _ else none) = some e at ht; rw [if_neg hb0] at ht; cases ht
              · change (if b = 0 then _ else none) = some e at ht; rw [if_neg hb0] at ht; cases ht
            · have ha13 : 13 ≤ a := by
                have : ¬ (9 ≤ a ∧ a ≤ 12) := fun q => t1 (Or.inr q)
                omega
              rcases Nat.lt_or_ge a 27 with ha2 | ha2
              · refine Or.inl ⟨ha13, by omega, ?_⟩
                by_cases hb : b < m
                · exact hb
                · exfalso
                  have g : ∀ x : Option va_E, (if b < m then x else none) = none := fun x => if_neg hb
                  have h3 : a = 13 ∨ a = 14 ∨ a = 15 ∨ a = 16 ∨ a = 17 ∨ a = 18 ∨ a = 19 ∨ a = 20 ∨ a = 21 ∨ a = 22 ∨ a = 23 ∨ a = 24 ∨ a = 25 ∨ a = 26 := by omega
                  rcases h3 with rfl | rfl | rfl | rfl | rfl | rfl | rfl | rfl | rfl | rfl | rfl | rfl | rfl | rfl <;> (change (if b < m then _ else none) = some e at ht; rw [if_neg hb] at ht; cases ht)
              · rcases Nat.lt_or_ge a 30 with ha3 | ha3
                · refine Or.inr ⟨ha2, by omega, ?_⟩
                  by_cases hb : b / 16 < m ∧ b % 16 < 2 * m - 1
                  · exact hb.1
                  · exfalso
                    have g : ∀ x : Option va_E, (if b / 16 < m ∧ b % 16 < 2 * m - 1 then x else none) = none := fun x => if_neg hb
                    have h3 : a = 27 ∨ a = 28 ∨ a = 29 := by omega
                    rcases h3 with rfl | rfl | rfl <;> (change (if b / 16 < m ∧ b % 16 < 2 * m - 1 then _ else none) = some e at ht; rw [if_neg hb] at ht; cases ht)
                · exfalso
                  have h3 : a = 30 ∨ a = 31 ∨ a = 32 ∨ a = 33 ∨ 34 ≤ a := by omega
                  have g0 : ∀ x : Option va_E, (if b < 0 then x else none) = none := fun x => if_neg (by omega)
                  have g1 : ∀ x : Option va_E, (if b < 0 ∧ false = true then x else none) = none := fun x => if_neg (by omega)
                  rcases h3 with rfl | rfl | rfl | rfl | h34
                  · rw [show c0_h ar B m (30, b) = none by simp [cs_h, cs_c, cs_0]] at ht; cases ht
                  · rw [show c0_h ar B m (31, b) = none by simp [cs_h, cs_c, cs_0]] at ht; cases ht
                  · rw [show c0_h ar B m (32, b) = none by simp [cs_h, cs_c, cs_0]] at ht; cases ht
                  · rw [show c0_h ar B m (33, b) = none by simp [cs_h, cs_c, cs_0]] at ht; cases ht
                  · obtain ⟨z, rfl⟩ : ∃ z, a = z + 34 := ⟨a - 34, by omega⟩
                    rw [show c0_h ar B m (z + 34, b) = none from rfl] at ht; cases ht
          rw [if_pos hdom]
          exact ht
end CS5
