section CU
variable {ar : Nat → ClassId} {A : tg_T → Nat} {s s1 : cs_S} {σ : mj_S} {m x : Nat} {b : Int32} {Q : (Option Value ⊕ String) → mj_S → Prop}
/-- what stands while main x sends its first PREPAREs: y of them went -/
def cc_I (m x : Nat) (b : Int32) (s1 s : cs_S) (y : Nat) : Prop := cs_M s 0 ∧ s.1 = m ∧ s.2.1 = y ∧ s.2.2.1 = (fun _ => false) ∧ cs_v s 3 0 3 = nI 0 ∧ cs_v s 6 0 1 = nI 0 ∧ cs_v s 6 0 2 = nI (if x < y then 1 else 0) ∧ (x < y → ∃ p, p < y ∧ cs_r s 7 0 = some p ∧ cs_v s 30 p = cs_six (nI x) (nI x) 1 b 0 0) ∧ (∀ k i, k ≠ 3 → k ≠ 4 → k ≠ 6 → k ≠ 30 → cs_v s k i = cs_v s1 k i)
theorem mk_v {w : Nat → Int32} {k i : Nat} (h : ¬ (k = 30 ∧ i = s.2.1)) : cs_v (cs_mk s w) k i = cs_v s k i := if_neg h
theorem mk_vm {w : Nat → Int32} : cs_v (cs_mk s w) 30 s.2.1 = w := if_pos ⟨rfl, rfl⟩
theorem send_new {a b' c d e f : Int32} {hd n : Nat} (hu : cs_v s 3 0 3 = nI 0) (h1 : cs_v s (cs_kq a b') 0 1 = nI hd) (h1' : hd < 300) (h2 : cs_v s (cs_kq a b') 0 2 = nI n) (h2' : n < 300) : cs_send s a b' c d e f = (cs_push (cs_mk s (cs_six a b' c d e f)) (cs_kq a b') hd n s.2.1, some s.2.1) := by
  unfold cs_send
  rw [cs_Nv h2 (by omega), if_neg (by omega), cs_Nv hu (by decide), if_pos rfl, cs_Nv h1 (by omega)]
theorem td_mk {w : Nat → Int32} (h : s.2.2.1 = fun _ => false) : (cs_mk s w).2.2.1 = fun _ => false := by
  funext i
  show (if i = s.2.1 then false else s.2.2.1 i) = false
  rw [h]
  split <;> rfl
/-- one PREPARE more -/
theorem cc_s {y : Nat} (hm5 : m ≤ 5) (hx : x < m) (hy : y < m) (h : tg_R A (cs_h ar A s) σ) (hI : cc_I m x b s1 s y) (hQ : ∀ A' τ s' v, (∀ k i, k ≠ 30 → A' (k, i) = A (k, i)) → tg_R A' (cs_h ar A' s') τ → cc_I m x b s1 s' (y + 1) → τ.1 = σ.1 + 1 → τ.2.1 = σ.2.1 + 7 → Q (.inl (some (.ref v))) τ) : mj_wp (tb ar) 17 (mj_en (tb ar) 17 [.ref (A (3, 0)), .int (nI x), .int (nI y), .int 1, .int b, .int 0, .int 0] σ) Q := by
  obtain ⟨i1, i2, i3, i4, i5, i6, i7, i8, i9⟩ := hI
  have hM := i1
  obtain ⟨hL, h4, n4, h6, n6, u, q4, q6, hu, hun, hc, hm⟩ := i1
  have hn4 : n4 ≤ 5 := by omega
  by_cases hxy : x = y
  · subst hxy
    have hk : cs_kq (nI x) (nI x) = 6 := if_pos rfl
    rw [if_neg (by omega)] at i7
    have es := send_new (s := s) (a := nI x) (b' := nI x) (c := 1) (d := b) (e := 0) (f := 0) (hd := 0) (n := 0) i5 (by rw [hk]; exact i6) (by omega) (by rw [hk]; exact i7) (by omega)
    rw [hk] at es
    refine C_send h hM (fun A' τ hA' ht1 ht2 hτ => ?_)
    rw [es] at hτ ht1 ht2 ⊢
    refine hQ A' τ _ _ (fun k i hk => hA' _ (fun e => hk (congrArg Prod.fst e))) hτ ?_ ?_ ?_
    · have hM' := M_send (a := nI x) (b := nI x) (c := 1) (d := b) (e := 0) (f := 0) hM (by omega)
      rw [es] at hM'
      refine ⟨hM', i2, ?_, td_mk (w := cs_six (nI x) (nI x) 1 b 0 0) i4, ?_, ?_, ?_, fun _ => ⟨s.2.1, by omega, ?_, ?_⟩, fun k i k3 k4 k6 k30 => ?_⟩
      · show s.2.1 + 1 = x + 1
        omega
      · rw [push_vn (by omega), mk_v (by omega)]
        exact i5
      · rw [push_v, w_set_ne (by decide), mk_v (by omega)]
        exact i6
      · rw [push_v, w_set_at, if_pos (by omega)]
      · rw [push_r]
        show va_up (cs_r s 7) 0 (some s.2.1) 0 = _
        exact if_pos rfl
      · rw [push_vn (by omega)]
        exact mk_vm
      · rw [push_vn (by omega), mk_v (by omega)]
        exact i9 k i k3 k4 k6 k30
    · have : τ.1 + s.2.1 = σ.1 + (s.2.1 + 1) := ht1
      omega
    · have : τ.2.1 + 7 * s.2.1 = σ.2.1 + 7 * (s.2.1 + 1) := ht2
      omega
  · have hne : ¬ nI x = nI y := fun e => by
      rw [nI_eq (by omega) (by omega)] at e
      omega
    have hk : cs_kq (nI x) (nI y) = 4 := if_neg hne
    have es := send_new (s := s) (a := nI x) (b' := nI y) (c := 1) (d := b) (e := 0) (f := 0) (hd := h4) (n := n4) i5 (by rw [hk]; exact q4.1) q4.2.1 (by rw [hk]; exact q4.2.2.1) (by omega)
    rw [hk] at es
    refine C_send h hM (fun A' τ hA' ht1 ht2 hτ => ?_)
    rw [es] at hτ ht1 ht2 ⊢
    refine hQ A' τ _ _ (fun k i hk => hA' _ (fun e => hk (congrArg Prod.fst e))) hτ ?_ ?_ ?_
    · have hM' := M_send (a := nI x) (b := nI y) (c := 1) (d := b) (e := 0) (f := 0) hM (by omega)
      rw [es] at hM'
      refine ⟨hM', i2, ?_, td_mk (w := cs_six (nI x) (nI y) 1 b 0 0) i4, ?_, ?_, ?_, fun hlt => ?_, fun k i k3 k4 k6 k30 => ?_⟩
      · show s.2.1 + 1 = y + 1
        omega
      · rw [push_vn (by omega), mk_v (by omega)]
        exact i5
      · rw [push_vn (by omega), mk_v (by omega)]
        exact i6
      · rw [push_vn (by omega), mk_v (by omega), i7]
        have hlt : x < y + 1 ↔ x < y := by omega
        simp only [hlt]
      · obtain ⟨p, p1, p2, p3⟩ := i8 (by omega)
        refine ⟨p, by omega, ?_, ?_⟩
        · rw [push_rn (by omega)]
          exact p2
        · rw [push_vn (by omega), mk_v (by omega)]
          exact p3
      · rw [push_vn (by omega), mk_v (by omega)]
        exact i9 k i k3 k4 k6 k30
    · have : τ.1 + s.2.1 = σ.1 + (s.2.1 + 1) := ht1
      omega
    · have : τ.2.1 + 7 * s.2.1 = σ.2.1 + 7 * (s.2.1 + 1) := ht2
      omega
theorem cc_loop {a0 a13 z0 q0 : Nat} (hm : m = 2 ∨ m = 3 ∨ m = 4 ∨ m = 5) (hx : x < m) (b0 : cs_v s1 0 0 1 = nI (2 * m - 1)) (b7 : cs_v s1 20 x 7 = b) (b3 : cs_v s1 14 x 3 = 0) (hQ : ∀ A' τ s', tg_R A' (cs_h ar A' s') τ → A' (0, 0) = a0 → A' (13, x) = a13 → cc_I m x b s1 s' m → τ.1 = z0 + m → τ.2.1 = q0 + 7 * m → mj_wp (tb ar) 77 (61, [some (.ref a0), some (.int (nI x)), some (.int ((1 <<< (nI m &&& 31)) - 1)), some (.ref a13), some (.int (nI (2 * m - 1)))], [], τ) Q) : ∀ (j y : Nat), y + j = 2 * m - 1 → ∀ A τ s, tg_R A (cs_h ar A s) τ → A (0, 0) = a0 → A (13, x) = a13 → cc_I m x b s1 s (min y m) → τ.1 = z0 + min y m → τ.2.1 = q0 + 7 * min y m → mj_wp (tb ar) 77 (10, [some (.ref a0), some (.int (nI x)), some (.int ((1 <<< (nI m &&& 31)) - 1)), some (.ref a13), some (.int (nI y))], [], τ) Q
  | 0, y, hj, A, τ, s, h, ha0, ha13, hI, t1, t2 => by
    have h' : y = 2 * m - 1 := by omega
    subst h'
    have g0 := cs_g (k := 0) (i := 0) h rfl
    rw [ha0] at g0
    have e1 : cs_v s 0 0 1 = nI (2 * m - 1) := by rw [hI.2.2.2.2.2.2.2.2 0 0 (by decide) (by decide) (by decide) (by decide)]; exact b0
    have c1 : nI (2 * m - 1) ≤ nI (2 * m - 1) := nI_le (Nat.le_refl _) (by omega)
    simp only [r77_10, r77_12, r77_13, r77_16, wo_nx, wo_ret, wo_ite, wo_call, bk_inl, mj_lda, mj_ldi, mj_sti, mj_sta, mj_b2, mj_br1, mj_br2, mj_brn, mj_ir, mj_rr, mj_nx, mj_gf, mj_fld, mj_k2, mj_rc, mj_cls, mj_dup, mj_inc, List.getElem?_cons_zero, List.getElem?_cons_succ, List.length_cons, List.length_nil, List.set_cons_succ, List.set_cons_zero, Nat.reduceAdd, Nat.reduceLT, if_true, if_false, mj_iif, decide_eq_true_eq, List.take_succ_cons, List.take_zero, List.reverse_cons, List.reverse_nil, List.nil_append, List.cons_append, List.drop_succ_cons, List.drop_zero, List.map_cons, List.map_nil, cat_i, cat_r, cat_n, Nat.reduceLeDiff, true_and, and_true, decide_true, Option.toList_some, Option.toList_none, and_self, Nat.le_refl, mj_vr, mj_zr, mj_th, wo_thr, mxl_0, mxl_1, mxl_2, mxl_3, mxl_4, mxl_5, mxl_6, mxl_7, mxl_8, mxl_9, mxl_10, mxl_11, mxl_12, mxl_13, mxl_14, mxl_15, mxl_16, mxl_17, mxl_18, mxl_19, mxl_20, mxl_21, mxl_22, mxl_23, mxl_24, mxl_25, mxl_26, mxl_27, mxl_28, mxl_29, mxl_30, mxl_31, mxl_32, mxl_33, mxl_34, mxl_35, mxl_36, mxl_37, mxl_38, mxl_39, mxl_40, mxl_41, mxl_42, mxl_43, mxl_44, mxl_45, mxl_46, mxl_47, mxl_48, mxl_49, mxl_50, mxl_51, mxl_52, mxl_53, mxl_54, mxl_55, mxl_56, mxl_57, mxl_58, mxl_59, mxl_60, mxl_61, mxl_62, mxl_63, mxl_64, mxl_65, mxl_66, mxl_67, mxl_68, mxl_69, mxl_70, mxl_71, mxl_72, mxl_73, mxl_74, mxl_75, mxl_76, mxl_77, mxl_78, mxl_79, mxl_80, mxl_81, mxl_82, mxl_83, mxl_84, mxl_85, mxl_86, mxl_136, mxl_137, g0, e1, c1]
    rw [show min (2 * m - 1) m = m by omega] at hI t1 t2
    exact hQ A τ s h ha0 ha13 hI t1 t2
  | j + 1, y, hj, A, τ, s, h, ha0, ha13, hI, t1, t2 => by
    have hs1 : s.1 = m := hI.2.1
    have hi : x < s.1 := by rw [hs1]; exact hx
    have g0 := cs_g (k := 0) (i := 0) h rfl
    have g3 := cs_g (k := 3) (i := 0) h rfl
    have g13 := cs_g (k := 13) (i := x) h (if_pos hi)
    have g14 := cs_g (k := 14) (i := x) h (if_pos hi)
    have g20 := cs_g (k := 20) (i := x) h (if_pos hi)
    rw [ha0] at g0
    rw [ha13] at g13
    have sm := hI.2.2.2.2.2.2.2.2
    have e1 : cs_v s 0 0 1 = nI (2 * m - 1) := by rw [sm 0 0 (by decide) (by decide) (by decide) (by decide)]; exact b0
    have e7 : cs_v s 20 x 7 = b := by rw [sm 20 x (by decide) (by decide) (by decide) (by decide)]; exact b7
    have e3 : cs_v s 14 x 3 = 0 := by rw [sm 14 x (by decide) (by decide) (by decide) (by decide)]; exact b3
    have c1 : ¬ nI (2 * m - 1) ≤ nI y := nI_ge (by omega) (by omega)
    have hb := bit_M (y := y) hm (by omega)
    by_cases hy : y < m
    · rw [if_pos hy] at hb
      rw [show min y m = y by omega] at hI t1 t2
      simp only [r77_10, r77_12, r77_13, r77_16, r77_19, r77_20, r77_22, r77_23, r77_24, r77_25, r77_28, r77_29, r77_32, r77_33, r77_35, r77_36, r77_37, r77_40, r77_43, r77_44, r77_47, r77_50, r77_51, wo_nx, wo_ret, wo_ite, wo_call, bk_inl, mj_lda, mj_ldi, mj_sti, mj_sta, mj_b2, mj_br1, mj_br2, mj_brn, mj_ir, mj_rr, mj_nx, mj_gf, mj_fld, mj_k2, mj_rc, mj_cls, mj_dup, mj_inc, List.getElem?_cons_zero, List.getElem?_cons_succ, List.length_cons, List.length_nil, List.set_cons_succ, List.set_cons_zero, Nat.reduceAdd, Nat.reduceLT, if_true, if_false, mj_iif, decide_eq_true_eq, List.take_succ_cons, List.take_zero, List.reverse_cons, List.reverse_nil, List.nil_append, List.cons_append, List.drop_succ_cons, List.drop_zero, List.map_cons, List.map_nil, cat_i, cat_r, cat_n, Nat.reduceLeDiff, true_and, and_true, decide_true, Option.toList_some, Option.toList_none, and_self, Nat.le_refl, mj_vr, mj_zr, mj_th, wo_thr, mxl_0, mxl_1, mxl_2, mxl_3, mxl_4, mxl_5, mxl_6, mxl_7, mxl_8, mxl_9, mxl_10, mxl_11, mxl_12, mxl_13, mxl_14, mxl_15, mxl_16, mxl_17, mxl_18, mxl_19, mxl_20, mxl_21, mxl_22, mxl_23, mxl_24, mxl_25, mxl_26, mxl_27, mxl_28, mxl_29, mxl_30, mxl_31, mxl_32, mxl_33, mxl_34, mxl_35, mxl_36, mxl_37, mxl_38, mxl_39, mxl_40, mxl_41, mxl_42, mxl_43, mxl_44, mxl_45, mxl_46, mxl_47, mxl_48, mxl_49, mxl_50, mxl_51, mxl_52, mxl_53, mxl_54, mxl_55, mxl_56, mxl_57, mxl_58, mxl_59, mxl_60, mxl_61, mxl_62, mxl_63, mxl_64, mxl_65, mxl_66, mxl_67, mxl_68, mxl_69, mxl_70, mxl_71, mxl_72, mxl_73, mxl_74, mxl_75, mxl_76, mxl_77, mxl_78, mxl_79, mxl_80, mxl_81, mxl_82, mxl_83, mxl_84, mxl_85, mxl_86, mxl_136, mxl_137, g0, g3, g13, g14, g20, e1, e7, e3, c1, hb, k_10]
      refine cc_s (by omega) hx hy h hI (fun A' τ' s' v hA' hτ' hI' u1 u2 => ?_)
      simp only [r77_54, r77_55, r77_58, wo_nx, wo_ret, wo_ite, wo_call, bk_inl, mj_lda, mj_ldi, mj_sti, mj_sta, mj_b2, mj_br1, mj_br2, mj_brn, mj_ir, mj_rr, mj_nx, mj_gf, mj_fld, mj_k2, mj_rc, mj_cls, mj_dup, mj_inc, List.getElem?_cons_zero, List.getElem?_cons_succ, List.length_cons, List.length_nil, List.set_cons_succ, List.set_cons_zero, Nat.reduceAdd, Nat.reduceLT, if_true, if_false, mj_iif, decide_eq_true_eq, List.take_succ_cons, List.take_zero, List.reverse_cons, List.reverse_nil, List.nil_append, List.cons_append, List.drop_succ_cons, List.drop_zero, List.map_cons, List.map_nil, cat_i, cat_r, cat_n, Nat.reduceLeDiff, true_and, and_true, decide_true, Option.toList_some, Option.toList_none, and_self, Nat.le_refl, mj_vr, mj_zr, mj_th, wo_thr, mxl_0, mxl_1, mxl_2, mxl_3, mxl_4, mxl_5, mxl_6, mxl_7, mxl_8, mxl_9, mxl_10, mxl_11, mxl_12, mxl_13, mxl_14, mxl_15, mxl_16, mxl_17, mxl_18, mxl_19, mxl_20, mxl_21, mxl_22, mxl_23, mxl_24, mxl_25, mxl_26, mxl_27, mxl_28, mxl_29, mxl_30, mxl_31, mxl_32, mxl_33, mxl_34, mxl_35, mxl_36, mxl_37, mxl_38, mxl_39, mxl_40, mxl_41, mxl_42, mxl_43, mxl_44, mxl_45, mxl_46, mxl_47, mxl_48, mxl_49, mxl_50, mxl_51, mxl_52, mxl_53, mxl_54, mxl_55, mxl_56, mxl_57, mxl_58, mxl_59, mxl_60, mxl_61, mxl_62, mxl_63, mxl_64, mxl_65, mxl_66, mxl_67, mxl_68, mxl_69, mxl_70, mxl_71, mxl_72, mxl_73, mxl_74, mxl_75, mxl_76, mxl_77, mxl_78, mxl_79, mxl_80, mxl_81, mxl_82, mxl_83, mxl_84, mxl_85, mxl_86, mxl_136, mxl_137, mj_pop, nI_1]
      refine cc_loop hm hx b0 b7 b3 hQ j (y + 1) (by omega) A' τ' s' hτ' ?_ ?_ ?_ ?_ ?_
      · rw [hA' 0 0 (by decide)]; exact ha0
      · rw [hA' 13 x (by decide)]; exact ha13
      · rw [show min (y + 1) m = y + 1 by omega]; exact hI'
      · omega
      · omega
    · rw [if_neg hy] at hb
      rw [r77_10]
      simp only [r77_12, r77_13, r77_16, r77_19, r77_20, r77_22, r77_23, r77_24, r77_25, r77_55, r77_58, wo_nx, wo_ret, wo_ite, wo_call, bk_inl, mj_lda, mj_ldi, mj_sti, mj_sta, mj_b2, mj_br1, mj_br2, mj_brn, mj_ir, mj_rr, mj_nx, mj_gf, mj_fld, mj_k2, mj_rc, mj_cls, mj_dup, mj_inc, List.getElem?_cons_zero, List.getElem?_cons_succ, List.length_cons, List.length_nil, List.set_cons_succ, List.set_cons_zero, Nat.reduceAdd, Nat.reduceLT, if_true, if_false, mj_iif, decide_eq_true_eq, List.take_succ_cons, List.take_zero, List.reverse_cons, List.reverse_nil, List.nil_append, List.cons_append, List.drop_succ_cons, List.drop_zero, List.map_cons, List.map_nil, cat_i, cat_r, cat_n, Nat.reduceLeDiff, true_and, and_true, decide_true, Option.toList_some, Option.toList_none, and_self, Nat.le_refl, mj_vr, mj_zr, mj_th, wo_thr, mxl_0, mxl_1, mxl_2, mxl_3, mxl_4, mxl_5, mxl_6, mxl_7, mxl_8, mxl_9, mxl_10, mxl_11, mxl_12, mxl_13, mxl_14, mxl_15, mxl_16, mxl_17, mxl_18, mxl_19, mxl_20, mxl_21, mxl_22, mxl_23, mxl_24, mxl_25, mxl_26, mxl_27, mxl_28, mxl_29, mxl_30, mxl_31, mxl_32, mxl_33, mxl_34, mxl_35, mxl_36, mxl_37, mxl_38, mxl_39, mxl_40, mxl_41, mxl_42, mxl_43, mxl_44, mxl_45, mxl_46, mxl_47, mxl_48, mxl_49, mxl_50, mxl_51, mxl_52, mxl_53, mxl_54, mxl_55, mxl_56, mxl_57, mxl_58, mxl_59, mxl_60, mxl_61, mxl_62, mxl_63, mxl_64, mxl_65, mxl_66, mxl_67, mxl_68, mxl_69, mxl_70, mxl_71, mxl_72, mxl_73, mxl_74, mxl_75, mxl_76, mxl_77, mxl_78, mxl_79, mxl_80, mxl_81, mxl_82, mxl_83, mxl_84, mxl_85, mxl_86, mxl_136, mxl_137, g0, e1, c1, hb, nI_1]
      refine cc_loop hm hx b0 b7 b3 hQ j (y + 1) (by omega) A τ s h ha0 ha13 ?_ ?_ ?_
      · rw [show min (y + 1) m = min y m by omega]; exact hI
      · omega
      · omega
end CU
