/-! onPrepare -/
section DH
variable {ar : Nat → ClassId} {A A0 A1 A' : tg_T → Nat} {s s0 s' s1 : cs_S} {σ σ0 σ1 τ : mj_S} {i p x y t : Nat} {k : Int32} {Q : (Option Value ⊕ String) → mj_S → Prop} {W O U hd L X O2 : List Nat} {w : Nat → Int32}
theorem q_31 {f g : Nat → Int32} {lo en : Int32} : ct_q s (cs_u3 s 31 p f g lo en) := q_tr (q_tr (q_u (by omega) (by omega)) (q_u (by omega) (by omega))) (q_u (by omega) (by omega))
theorem R_31 {f g : Nat → Int32} {lo en : Int32} (h : ct_R s) (he : ∃ e : Nat, en = nI e ∧ e ≤ 100) : ct_R (cs_u3 s 31 p f g lo en) := by
  refine R_cu (R_cu (R_cu h trivial) trivial) ?_
  obtain ⟨e, e1, e2⟩ := he
  exact ⟨e, by rw [w_set_at]; exact e1, e2⟩
theorem lay_q : ∀ j : Nat, ct_q s (cs_lay s i 31 p j)
  | 0 => q_rf
  | j + 1 => by
    unfold cs_lay
    split
    · exact lay_q j
    · exact q_tr (lay_q j) q_31
theorem lay_Rc (h : ct_R s) : ∀ j : Nat, j ≤ 100 → ct_R (cs_lay s i 31 p j)
  | 0, _ => h
  | j + 1, hj => by
    have ih := lay_Rc h j (by omega)
    unfold cs_lay
    split
    · exact ih
    · refine R_31 ih ?_
      obtain ⟨e, e1, e2⟩ := ih 31 p
      split
      · exact ⟨j + 1, rfl, hj⟩
      · exact ⟨e, e1, e2⟩
theorem lay_v : ∀ (j k' i' : Nat), k' < 31 → cs_v (cs_lay s i 31 p j) k' i' = cs_v s k' i'
  | 0, _, _, _ => rfl
  | j + 1, k', i', hk => by
    have ih := lay_v j k' i' hk
    unfold cs_lay
    split
    · exact ih
    · unfold cs_put cs_u3
      rw [cs_u_ne (by omega), cs_u_ne (by omega), cs_u_ne (by omega)]
      exact ih
/-- the PROMISE, behind what is known -/
theorem C_pp {mv : Value} {l4 l5 : Option Value} (hmv : mv = .null ∨ (x < s.1 ∧ mv = .ref (A (13, x)))) (I : ct_I ar A s σ (W ++ X) (O ++ O2) U hd) (D : ct_D A0 s0 σ0 A s σ (W ++ O ++ hd)) (ho : (¬ x = y → O2 = []) ∧ ∀ q ∈ O2, ¬ cs_v s 30 q 2 = 1 ∧ cs_v s 30 q 1 = nI y) (hc : O2.length ≤ 100) (r : x < s0.1 → ct_rl s0 s x) (hp : p ∈ hd) (hx : x < 2 * s.1 - 1) (hy : y < 2 * s.1 - 1) (m0 : cs_v s 30 p 0 = nI y) (m1 : cs_v s 30 p 1 = nI x) (hl : O.length + hd.length ≤ 190) (hQ : ∀ τ, ct_H ar A0 s0 σ0 W O hd x y 1 τ → Q (.inl none) τ) : mj_wp (tb ar) 66 (118, [some (.ref (A (0, 0))), some (.ref (A (9, x))), some mv, some (.ref (A (30, p))), l4, l5], [], σ) Q := by
  have g0 := cs_g (k := 0) (i := 0) I.1 rfl
  have g3 := cs_g (k := 3) (i := 0) I.1 rfl
  have g9 := cs_g (k := 9) (i := x) I.1 (if_pos hx)
  have g10 := cs_g (k := 10) (i := x) I.1 (if_pos hx)
  have g30 := cs_g (k := 30) (i := p) I.1 (if_pos (hd_lt I hp))
  rw [m0, m1] at g30
  obtain ⟨lo, en, l1, l2, -, -⟩ := I.2.2.2 10 x
  simp only [r66_118, r66_119, r66_122, r66_123, r66_126, r66_127, r66_130, r66_131, r66_132, r66_135, r66_136, r66_139, r66_142, r66_143, wo_nx, wo_ret, wo_ite, wo_call, bk_inl, mj_lda, mj_ldi, mj_sti, mj_sta, mj_b2, mj_br1, mj_br2, mj_brn, mj_ir, mj_rr, mj_nx, mj_gf, mj_fld, mj_k2, mj_rc, mj_cls, mj_dup, mj_inc, List.getElem?_cons_zero, List.getElem?_cons_succ, List.length_cons, List.length_nil, List.set_cons_succ, List.set_cons_zero, Nat.reduceAdd, Nat.reduceLT, if_true, if_false, mj_iif, decide_eq_true_eq, List.take_succ_cons, List.take_zero, List.reverse_cons, List.reverse_nil, List.nil_append, List.cons_append, List.drop_succ_cons, List.drop_zero, List.map_cons, List.map_nil, cat_i, cat_r, cat_n, Nat.reduceLeDiff, true_and, and_true, decide_true, Option.toList_some, Option.toList_none, and_self, Nat.le_refl, mj_vr, mj_zr, mj_th, wo_thr, mxl_0, mxl_1, mxl_2, mxl_3, mxl_4, mxl_5, mxl_6, mxl_7, mxl_8, mxl_9, mxl_10, mxl_11, mxl_12, mxl_13, mxl_14, mxl_15, mxl_16, mxl_17, mxl_18, mxl_19, mxl_20, mxl_21, mxl_22, mxl_23, mxl_24, mxl_25, mxl_26, mxl_27, mxl_28, mxl_29, mxl_30, mxl_31, mxl_32, mxl_33, mxl_34, mxl_35, mxl_36, mxl_37, mxl_38, mxl_39, mxl_40, mxl_41, mxl_42, mxl_43, mxl_44, mxl_45, mxl_46, mxl_47, mxl_48, mxl_49, mxl_50, mxl_51, mxl_52, mxl_53, mxl_54, mxl_55, mxl_56, mxl_57, mxl_58, mxl_59, mxl_60, mxl_61, mxl_62, mxl_63, mxl_64, mxl_65, mxl_66, mxl_67, mxl_68, mxl_69, mxl_70, mxl_71, mxl_72, mxl_73, mxl_74, mxl_75, mxl_76, mxl_77, mxl_78, mxl_79, mxl_80, mxl_81, mxl_82, mxl_83, mxl_84, mxl_85, mxl_86, mxl_136, mxl_137, mj_il, mj_ia, mj_is, mj_sa, mj_zs, mj_pf, mj_sf, mj_fit, Option.isSome_some, mj_pop, mj_dup2, mj_mm, ar_0, ar_1, cs_rf, mj_aald, kr_5, kr_7, va_rf, true_or, or_true, g0, g3, g9, g10, g30, l1]
  refine C_snd I hx hy l2 (fun h => absurd h (by decide)) (by rw [List.length_append]; omega) (fun A1 s1 σ1 X1 O21 U1 o I1 D1 S1 h1 h2 => ?_)
  have kept : ∀ q, q ∈ O2 → cs_v s1 30 q = cs_v s 30 q := fun q hq => D1.2.2 q (by simp only [List.mem_append]; exact Or.inl (Or.inr (Or.inr hq)))
  have ho1 : (¬ x = y → O2 ++ O21 = []) ∧ (∀ q ∈ O2 ++ O21, cs_v s1 30 q 1 = nI y) ∧ (∀ q ∈ O2 ++ O21, ¬ cs_v s1 30 q 2 = 1) ∧ (O2 ++ O21).length ≤ 101 := by
    rcases h1 with rfl | ⟨e, q, rfl, hq⟩
    · rw [List.append_nil]
      refine ⟨ho.1, fun q hq => ?_, fun q hq => ?_, by omega⟩
      · rw [kept q hq]
        exact (ho.2 q hq).2
      · rw [kept q hq]
        exact (ho.2 q hq).1
    · refine ⟨fun h => absurd e h, fun q' hq' => ?_, fun q' hq' => ?_, by rw [List.length_append]; show O2.length + 1 ≤ 101; omega⟩
      · rcases List.mem_append.mp hq' with h | h
        · rw [kept q' h]
          exact (ho.2 q' h).2
        · rw [List.mem_singleton.mp h, hq]
          rfl
      · rcases List.mem_append.mp hq' with h | h
        · rw [kept q' h]
          exact (ho.2 q' h).1
        · rw [List.mem_singleton.mp h, hq]
          show ¬ (2 : Int32) = 1
          decide
  have D01 : ct_D A0 s0 σ0 A1 s1 σ1 (W ++ O ++ hd) := D_tr D D1 sub3
  have r1 : x < s0.1 → ct_rl s0 s1 x := fun h => crl_tr (r h) (crl_of (by rw [S1 20 x (by decide) (by decide) (by decide) (by decide) (by decide)]) (S1 22 x (by decide) (by decide) (by decide) (by decide) (by decide)))
  have fin : ∀ (A2 : tg_T → Nat) (s2 : cs_S) (σ2 : mj_S), ct_I ar A2 s2 σ2 (W ++ X ++ X1) (O ++ O2 ++ O21) U1 hd → ct_D A1 s1 σ1 A2 s2 σ2 (W ++ O ++ hd) → cs_v s2 30 = cs_v s1 30 → (x < s0.1 → ct_rl s1 s2 x) → ct_H ar A0 s0 σ0 W O hd x y 1 σ2 := fun A2 s2 σ2 I2 D2 e30 r2 => by
    refine ⟨A2, s2, X ++ X1, O2 ++ O21, U1, by rw [← List.append_assoc, ← List.append_assoc]; exact I2, D_tr D01 D2 (fun _ h => h), ⟨ho1.1, fun q hq => by rw [e30]; exact ho1.2.1 q hq⟩, Or.inl ⟨rfl, ho1.2.2.2, fun q hq => by rw [e30]; exact ho1.2.2.1 q hq⟩, fun h => crl_tr (r1 h) (r2 h)⟩
  have e1 : s1.1 = s.1 := D1.1.2.2.1
  rcases h2 with rfl | ⟨p', rfl, hp', -⟩
  · simp only [r66_146, r66_148, r66_150, r66_153, wo_nx, wo_ret, wo_ite, wo_call, bk_inl, mj_lda, mj_ldi, mj_sti, mj_sta, mj_b2, mj_br1, mj_br2, mj_brn, mj_ir, mj_rr, mj_nx, mj_gf, mj_fld, mj_k2, mj_rc, mj_cls, mj_dup, mj_inc, List.getElem?_cons_zero, List.getElem?_cons_succ, List.length_cons, List.length_nil, List.set_cons_succ, List.set_cons_zero, Nat.reduceAdd, Nat.reduceLT, if_true, if_false, mj_iif, decide_eq_true_eq, List.take_succ_cons, List.take_zero, List.reverse_cons, List.reverse_nil, List.nil_append, List.cons_append, List.drop_succ_cons, List.drop_zero, List.map_cons, List.map_nil, cat_i, cat_r, cat_n, Nat.reduceLeDiff, true_and, and_true, decide_true, Option.toList_some, Option.toList_none, and_self, Nat.le_refl, mj_vr, mj_zr, mj_th, wo_thr, mxl_0, mxl_1, mxl_2, mxl_3, mxl_4, mxl_5, mxl_6, mxl_7, mxl_8, mxl_9, mxl_10, mxl_11, mxl_12, mxl_13, mxl_14, mxl_15, mxl_16, mxl_17, mxl_18, mxl_19, mxl_20, mxl_21, mxl_22, mxl_23, mxl_24, mxl_25, mxl_26, mxl_27, mxl_28, mxl_29, mxl_30, mxl_31, mxl_32, mxl_33, mxl_34, mxl_35, mxl_36, mxl_37, mxl_38, mxl_39, mxl_40, mxl_41, mxl_42, mxl_43, mxl_44, mxl_45, mxl_46, mxl_47, mxl_48, mxl_49, mxl_50, mxl_51, mxl_52, mxl_53, mxl_54, mxl_55, mxl_56, mxl_57, mxl_58, mxl_59, mxl_60, mxl_61, mxl_62, mxl_63, mxl_64, mxl_65, mxl_66, mxl_67, mxl_68, mxl_69, mxl_70, mxl_71, mxl_72, mxl_73, mxl_74, mxl_75, mxl_76, mxl_77, mxl_78, mxl_79, mxl_80, mxl_81, mxl_82, mxl_83, mxl_84, mxl_85, mxl_86, mxl_136, mxl_137, mj_il, mj_ia, mj_is, mj_sa, mj_zs, mj_pf, mj_sf, mj_fit, Option.isSome_some, mj_pop, mj_dup2, mj_mm, ar_0, ar_1, cs_rf, mj_aald, kr_5, kr_7, va_rf, true_or, or_true, cs_o]
    exact hQ σ1 (fin A1 s1 σ1 I1 D_rf rfl (fun _ => crl_rf))
  · simp only [r66_146, r66_148, r66_150, r66_154, r66_156, wo_nx, wo_ret, wo_ite, wo_call, bk_inl, mj_lda, mj_ldi, mj_sti, mj_sta, mj_b2, mj_br1, mj_br2, mj_brn, mj_ir, mj_rr, mj_nx, mj_gf, mj_fld, mj_k2, mj_rc, mj_cls, mj_dup, mj_inc, List.getElem?_cons_zero, List.getElem?_cons_succ, List.length_cons, List.length_nil, List.set_cons_succ, List.set_cons_zero, Nat.reduceAdd, Nat.reduceLT, if_true, if_false, mj_iif, decide_eq_true_eq, List.take_succ_cons, List.take_zero, List.reverse_cons, List.reverse_nil, List.nil_append, List.cons_append, List.drop_succ_cons, List.drop_zero, List.map_cons, List.map_nil, cat_i, cat_r, cat_n, Nat.reduceLeDiff, true_and, and_true, decide_true, Option.toList_some, Option.toList_none, and_self, Nat.le_refl, mj_vr, mj_zr, mj_th, wo_thr, mxl_0, mxl_1, mxl_2, mxl_3, mxl_4, mxl_5, mxl_6, mxl_7, mxl_8, mxl_9, mxl_10, mxl_11, mxl_12, mxl_13, mxl_14, mxl_15, mxl_16, mxl_17, mxl_18, mxl_19, mxl_20, mxl_21, mxl_22, mxl_23, mxl_24, mxl_25, mxl_26, mxl_27, mxl_28, mxl_29, mxl_30, mxl_31, mxl_32, mxl_33, mxl_34, mxl_35, mxl_36, mxl_37, mxl_38, mxl_39, mxl_40, mxl_41, mxl_42, mxl_43, mxl_44, mxl_45, mxl_46, mxl_47, mxl_48, mxl_49, mxl_50, mxl_51, mxl_52, mxl_53, mxl_54, mxl_55, mxl_56, mxl_57, mxl_58, mxl_59, mxl_60, mxl_61, mxl_62, mxl_63, mxl_64, mxl_65, mxl_66, mxl_67, mxl_68, mxl_69, mxl_70, mxl_71, mxl_72, mxl_73, mxl_74, mxl_75, mxl_76, mxl_77, mxl_78, mxl_79, mxl_80, mxl_81, mxl_82, mxl_83, mxl_84, mxl_85, mxl_86, mxl_136, mxl_137, mj_il, mj_ia, mj_is, mj_sa, mj_zs, mj_pf, mj_sf, mj_fit, Option.isSome_some, mj_pop, mj_dup2, mj_mm, ar_0, ar_1, cs_rf, mj_aald, kr_5, kr_7, va_rf, true_or, or_true, cs_o, cs_gm I1.1 hp']
    refine C_rmP (L := W ++ O ++ hd) I1 hp' (fun A2 s2 σ2 I2 D2 S2 e30 em td _ _ => ?_)
    have e2 : s2.1 = s1.1 := D2.1.2.2.1
    have hx2 : x < 2 * s2.1 - 1 := by omega
    have r2 : ct_rl s1 s2 x := crl_of (by rw [S2 20 x (by decide) (by decide) (by decide) (by decide) (by decide)]) (S2 22 x (by decide) (by decide) (by decide) (by decide) (by decide))
    have a9 : A2 (9, x) = A (9, x) := (D2.1.1 9 x (by decide)).trans (D1.1.1 9 x (by decide))
    have a13 : A2 (13, x) = A (13, x) := (D2.1.1 13 x (by decide)).trans (D1.1.1 13 x (by decide))
    have R31 : cs_R s2 31 p' := Or.inr (Or.inr ⟨rfl, by rw [em]; exact hp', td⟩)
    have R10 : cs_R s2 10 x := Or.inl ⟨rfl, hx2⟩
    have G9 := cs_g (k := 9) (i := x) I2.1 (if_pos hx2)
    rw [a9] at G9
    have G10 := cs_g (k := 10) (i := x) I2.1 (if_pos hx2)
    have G31 := cs_g (k := 31) (i := p') I2.1 (cs_R0 R31)
    obtain ⟨_, en1, -, -, n1, n2⟩ := I2.2.2.2 10 x
    obtain ⟨en2, n3, n4⟩ := I2.2.2.2 31 p'
    simp only [r66_159, r66_161, r66_163, r66_164, r66_167, wo_nx, wo_ret, wo_ite, wo_call, bk_inl, mj_lda, mj_ldi, mj_sti, mj_sta, mj_b2, mj_br1, mj_br2, mj_brn, mj_ir, mj_rr, mj_nx, mj_gf, mj_fld, mj_k2, mj_rc, mj_cls, mj_dup, mj_inc, List.getElem?_cons_zero, List.getElem?_cons_succ, List.length_cons, List.length_nil, List.set_cons_succ, List.set_cons_zero, Nat.reduceAdd, Nat.reduceLT, if_true, if_false, mj_iif, decide_eq_true_eq, List.take_succ_cons, List.take_zero, List.reverse_cons, List.reverse_nil, List.nil_append, List.cons_append, List.drop_succ_cons, List.drop_zero, List.map_cons, List.map_nil, cat_i, cat_r, cat_n, Nat.reduceLeDiff, true_and, and_true, decide_true, Option.toList_some, Option.toList_none, and_self, Nat.le_refl, mj_vr, mj_zr, mj_th, wo_thr, mxl_0, mxl_1, mxl_2, mxl_3, mxl_4, mxl_5, mxl_6, mxl_7, mxl_8, mxl_9, mxl_10, mxl_11, mxl_12, mxl_13, mxl_14, mxl_15, mxl_16, mxl_17, mxl_18, mxl_19, mxl_20, mxl_21, mxl_22, mxl_23, mxl_24, mxl_25, mxl_26, mxl_27, mxl_28, mxl_29, mxl_30, mxl_31, mxl_32, mxl_33, mxl_34, mxl_35, mxl_36, mxl_37, mxl_38, mxl_39, mxl_40, mxl_41, mxl_42, mxl_43, mxl_44, mxl_45, mxl_46, mxl_47, mxl_48, mxl_49, mxl_50, mxl_51, mxl_52, mxl_53, mxl_54, mxl_55, mxl_56, mxl_57, mxl_58, mxl_59, mxl_60, mxl_61, mxl_62, mxl_63, mxl_64, mxl_65, mxl_66, mxl_67, mxl_68, mxl_69, mxl_70, mxl_71, mxl_72, mxl_73, mxl_74, mxl_75, mxl_76, mxl_77, mxl_78, mxl_79, mxl_80, mxl_81, mxl_82, mxl_83, mxl_84, mxl_85, mxl_86, mxl_136, mxl_137, mj_il, mj_ia, mj_is, mj_sa, mj_zs, mj_pf, mj_sf, mj_fit, Option.isSome_some, mj_pop, mj_dup2, mj_mm, ar_0, ar_1, cs_rf, mj_aald, kr_5, kr_7, va_rf, true_or, or_true, G9, G10, G31]
    refine C_copy (k := 31) (i := p') (k' := 10) (i' := x) I2.1 R31 R10 (Or.inl (by decide)) n3 n1 n4 n2 (fun σ3 n33 h3 => ?_)
    have q3 : ct_q s2 (cs_cp s2 31 p' 10 x (max en2 en1)) := q_31
    have I3 := I_q I2 q3 (R_31 I2.2.2.2 ⟨en1, n1, n2⟩) h3
    have D3 : ct_D A2 s2 σ2 A2 (cs_cp s2 31 p' 10 x (max en2 en1)) σ3 (W ++ O ++ hd) := D_q q3 n33
    have v3 : ∀ k' i', k' < 31 → cs_v (cs_cp s2 31 p' 10 x (max en2 en1)) k' i' = cs_v s2 k' i' := fun k' i' hk => by
      unfold cs_cp cs_u3
      rw [cs_u_ne (by omega), cs_u_ne (by omega), cs_u_ne (by omega)]
    have R31' : cs_R (cs_cp s2 31 p' 10 x (max en2 en1)) 31 p' := R31
    generalize cs_cp s2 31 p' 10 x (max en2 en1) = s3 at q3 I3 D3 v3 R31' h3
    have f30 : cs_v s3 30 = cs_v s1 30 := (funext fun q => v3 30 q (by decide)).trans e30
    have r3 : ct_rl s1 s3 x := crl_tr r2 (crl_of (by rw [v3 20 x (by decide)]) (v3 22 x (by decide)))
    rcases hmv with rfl | ⟨hxm, rfl⟩
    · simp only [r66_170, r66_171, r66_183, wo_nx, wo_ret, wo_ite, wo_call, bk_inl, mj_lda, mj_ldi, mj_sti, mj_sta, mj_b2, mj_br1, mj_br2, mj_brn, mj_ir, mj_rr, mj_nx, mj_gf, mj_fld, mj_k2, mj_rc, mj_cls, mj_dup, mj_inc, List.getElem?_cons_zero, List.getElem?_cons_succ, List.length_cons, List.length_nil, List.set_cons_succ, List.set_cons_zero, Nat.reduceAdd, Nat.reduceLT, if_true, if_false, mj_iif, decide_eq_true_eq, List.take_succ_cons, List.take_zero, List.reverse_cons, List.reverse_nil, List.nil_append, List.cons_append, List.drop_succ_cons, List.drop_zero, List.map_cons, List.map_nil, cat_i, cat_r, cat_n, Nat.reduceLeDiff, true_and, and_true, decide_true, Option.toList_some, Option.toList_none, and_self, Nat.le_refl, mj_vr, mj_zr, mj_th, wo_thr, mxl_0, mxl_1, mxl_2, mxl_3, mxl_4, mxl_5, mxl_6, mxl_7, mxl_8, mxl_9, mxl_10, mxl_11, mxl_12, mxl_13, mxl_14, mxl_15, mxl_16, mxl_17, mxl_18, mxl_19, mxl_20, mxl_21, mxl_22, mxl_23, mxl_24, mxl_25, mxl_26, mxl_27, mxl_28, mxl_29, mxl_30, mxl_31, mxl_32, mxl_33, mxl_34, mxl_35, mxl_36, mxl_37, mxl_38, mxl_39, mxl_40, mxl_41, mxl_42, mxl_43, mxl_44, mxl_45, mxl_46, mxl_47, mxl_48, mxl_49, mxl_50, mxl_51, mxl_52, mxl_53, mxl_54, mxl_55, mxl_56, mxl_57, mxl_58, mxl_59, mxl_60, mxl_61, mxl_62, mxl_63, mxl_64, mxl_65, mxl_66, mxl_67, mxl_68, mxl_69, mxl_70, mxl_71, mxl_72, mxl_73, mxl_74, mxl_75, mxl_76, mxl_77, mxl_78, mxl_79, mxl_80, mxl_81, mxl_82, mxl_83, mxl_84, mxl_85, mxl_86, mxl_136, mxl_137, mj_il, mj_ia, mj_is, mj_sa, mj_zs, mj_pf, mj_sf, mj_fit, Option.isSome_some, mj_pop, mj_dup2, mj_mm, ar_0, ar_1, cs_rf, mj_aald, kr_5, kr_7, va_rf, true_or, or_true]
      exact hQ σ3 (fin A2 s3 σ3 I3 (D_tr D2 D3 (fun _ h => h)) f30 (fun _ => r3))
    · have hx3 : x < s3.1 := by rw [q3.1, e2, e1]; exact hxm
      have H13 := cs_g (k := 13) (i := x) I3.1 (if_pos hx3)
      rw [a13] at H13
      have H14 := cs_g (k := 14) (i := x) I3.1 (if_pos hx3)
      obtain ⟨_, enL, -, -, n5, n6⟩ := I3.2.2.2 14 x
      simp only [r66_170, r66_171, r66_174, r66_175, r66_178, r66_180, wo_nx, wo_ret, wo_ite, wo_call, bk_inl, mj_lda, mj_ldi, mj_sti, mj_sta, mj_b2, mj_br1, mj_br2, mj_brn, mj_ir, mj_rr, mj_nx, mj_gf, mj_fld, mj_k2, mj_rc, mj_cls, mj_dup, mj_inc, List.getElem?_cons_zero, List.getElem?_cons_succ, List.length_cons, List.length_nil, List.set_cons_succ, List.set_cons_zero, Nat.reduceAdd, Nat.reduceLT, if_true, if_false, mj_iif, decide_eq_true_eq, List.take_succ_cons, List.take_zero, List.reverse_cons, List.reverse_nil, List.nil_append, List.cons_append, List.drop_succ_cons, List.drop_zero, List.map_cons, List.map_nil, cat_i, cat_r, cat_n, Nat.reduceLeDiff, true_and, and_true, decide_true, Option.toList_some, Option.toList_none, and_self, Nat.le_refl, mj_vr, mj_zr, mj_th, wo_thr, mxl_0, mxl_1, mxl_2, mxl_3, mxl_4, mxl_5, mxl_6, mxl_7, mxl_8, mxl_9, mxl_10, mxl_11, mxl_12, mxl_13, mxl_14, mxl_15, mxl_16, mxl_17, mxl_18, mxl_19, mxl_20, mxl_21, mxl_22, mxl_23, mxl_24, mxl_25, mxl_26, mxl_27, mxl_28, mxl_29, mxl_30, mxl_31, mxl_32, mxl_33, mxl_34, mxl_35, mxl_36, mxl_37, mxl_38, mxl_39, mxl_40, mxl_41, mxl_42, mxl_43, mxl_44, mxl_45, mxl_46, mxl_47, mxl_48, mxl_49, mxl_50, mxl_51, mxl_52, mxl_53, mxl_54, mxl_55, mxl_56, mxl_57, mxl_58, mxl_59, mxl_60, mxl_61, mxl_62, mxl_63, mxl_64, mxl_65, mxl_66, mxl_67, mxl_68, mxl_69, mxl_70, mxl_71, mxl_72, mxl_73, mxl_74, mxl_75, mxl_76, mxl_77, mxl_78, mxl_79, mxl_80, mxl_81, mxl_82, mxl_83, mxl_84, mxl_85, mxl_86, mxl_136, mxl_137, mj_il, mj_ia, mj_is, mj_sa, mj_zs, mj_pf, mj_sf, mj_fit, Option.isSome_some, mj_pop, mj_dup2, mj_mm, ar_0, ar_1, cs_rf, mj_aald, kr_5, kr_7, va_rf, true_or, or_true, H13, H14]
      refine C_lay (k := 31) I3.1 hx3 R31' n5 n6 (fun σ4 n44 h4 => ?_)
      simp only [r66_183, wo_nx, wo_ret, wo_ite, wo_call, bk_inl, mj_lda, mj_ldi, mj_sti, mj_sta, mj_b2, mj_br1, mj_br2, mj_brn, mj_ir, mj_rr, mj_nx, mj_gf, mj_fld, mj_k2, mj_rc, mj_cls, mj_dup, mj_inc, List.getElem?_cons_zero, List.getElem?_cons_succ, List.length_cons, List.length_nil, List.set_cons_succ, List.set_cons_zero, Nat.reduceAdd, Nat.reduceLT, if_true, if_false, mj_iif, decide_eq_true_eq, List.take_succ_cons, List.take_zero, List.reverse_cons, List.reverse_nil, List.nil_append, List.cons_append, List.drop_succ_cons, List.drop_zero, List.map_cons, List.map_nil, cat_i, cat_r, cat_n, Nat.reduceLeDiff, true_and, and_true, decide_true, Option.toList_some, Option.toList_none, and_self, Nat.le_refl, mj_vr, mj_zr, mj_th, wo_thr, mxl_0, mxl_1, mxl_2, mxl_3, mxl_4, mxl_5, mxl_6, mxl_7, mxl_8, mxl_9, mxl_10, mxl_11, mxl_12, mxl_13, mxl_14, mxl_15, mxl_16, mxl_17, mxl_18, mxl_19, mxl_20, mxl_21, mxl_22, mxl_23, mxl_24, mxl_25, mxl_26, mxl_27, mxl_28, mxl_29, mxl_30, mxl_31, mxl_32, mxl_33, mxl_34, mxl_35, mxl_36, mxl_37, mxl_38, mxl_39, mxl_40, mxl_41, mxl_42, mxl_43, mxl_44, mxl_45, mxl_46, mxl_47, mxl_48, mxl_49, mxl_50, mxl_51, mxl_52, mxl_53, mxl_54, mxl_55, mxl_56, mxl_57, mxl_58, mxl_59, mxl_60, mxl_61, mxl_62, mxl_63, mxl_64, mxl_65, mxl_66, mxl_67, mxl_68, mxl_69, mxl_70, mxl_71, mxl_72, mxl_73, mxl_74, mxl_75, mxl_76, mxl_77, mxl_78, mxl_79, mxl_80, mxl_81, mxl_82, mxl_83, mxl_84, mxl_85, mxl_86, mxl_136, mxl_137, mj_il, mj_ia, mj_is, mj_sa, mj_zs, mj_pf, mj_sf, mj_fit, Option.isSome_some, mj_pop, mj_dup2, mj_mm, ar_0, ar_1, cs_rf, mj_aald, kr_5, kr_7, va_rf, true_or, or_true]
      have q4 : ct_q s3 (cs_lay s3 x 31 p' enL) := lay_q enL
      have I4 := I_q I3 q4 (lay_Rc I3.2.2.2 enL n6) h4
      refine hQ σ4 (fin A2 _ σ4 I4 (D_tr (D_tr D2 D3 (fun _ h => h)) (D_q (L := W ++ O ++ hd) q4 n44) (fun _ h => h)) ((funext fun q => lay_v enL 30 q (by decide)).trans f30) (fun _ => crl_tr r3 (crl_of (by rw [lay_v enL 20 x (by decide)]) (lay_v enL 22 x (by decide)))))
/-- what is known goes first -/
theorem op_loop {en : Nat} (hx : x < s0.1) (hy : y < 2 * s0.1 - 1) (hp : p ∈ hd) (m0 : cs_v s0 30 p 0 = nI y) (m1 : cs_v s0 30 p 1 = nI x) (he : cs_v s0 14 x 5 = nI en) (he1 : en ≤ 100) (hl : O.length + hd.length ≤ 190) (hp0 : p < s0.2.1) (hQ : ∀ τ, ct_H ar A0 s0 σ0 W O hd x y 1 τ → Q (.inl none) τ) : ∀ (j c : Nat), c + j = en ∨ (j = 0 ∧ en ≤ c ∧ c ≤ 100) → ∀ A s σ X O2 U (l5 : Option Value), ct_I ar A s σ (W ++ X) (O ++ O2) U hd → ct_D A0 s0 σ0 A s σ (W ++ O ++ hd) → ct_S s0 s → ((¬ x = y → O2 = []) ∧ ∀ q ∈ O2, ¬ cs_v s 30 q 2 = 1 ∧ cs_v s 30 q 1 = nI y) → O2.length + j ≤ 100 → mj_wp (tb ar) 66 (58, [some (.ref (A0 (0, 0))), some (.ref (A0 (9, x))), some (.ref (A0 (13, x))), some (.ref (A0 (30, p))), some (.int (nI c)), l5], [], σ) Q := by
  have sv : ∀ s, ct_S s0 s → x < s0.1 → ct_rl s0 s x := fun s S _ => crl_of (by rw [S 20 x (by decide) (by decide) (by decide) (by decide) (by decide)]) (S 22 x (by decide) (by decide) (by decide) (by decide) (by decide))
  intro j
  induction j with
  | zero =>
    intro c h A s σ X O2 U l5 I D S ho hc
    have e1 : s.1 = s0.1 := D.1.2.2.1
    have hx1 : x < s.1 := by rw [e1]; exact hx
    have e30 : cs_v s 30 p = cs_v s0 30 p := D.2.2 p (List.mem_append_right _ hp)
    have g13 := cs_g (k := 13) (i := x) I.1 (if_pos hx1)
    have g14 := cs_g (k := 14) (i := x) I.1 (if_pos hx1)
    rw [S 14 x (by decide) (by decide) (by decide) (by decide) (by decide), he] at g14
    have c1 : nI en ≤ nI c := nI_le (by omega) (by omega)
    rw [← D.1.1 0 0 (by decide), ← D.1.1 9 x (by decide), ← D.1.1 13 x (by decide), ← D.1.2.1 p hp0]
    simp only [r66_58, r66_60, r66_61, r66_64, r66_67, wo_nx, wo_ret, wo_ite, wo_call, bk_inl, mj_lda, mj_ldi, mj_sti, mj_sta, mj_b2, mj_br1, mj_br2, mj_brn, mj_ir, mj_rr, mj_nx, mj_gf, mj_fld, mj_k2, mj_rc, mj_cls, mj_dup, mj_inc, List.getElem?_cons_zero, List.getElem?_cons_succ, List.length_cons, List.length_nil, List.set_cons_succ, List.set_cons_zero, Nat.reduceAdd, Nat.reduceLT, if_true, if_false, mj_iif, decide_eq_true_eq, List.take_succ_cons, List.take_zero, List.reverse_cons, List.reverse_nil, List.nil_append, List.cons_append, List.drop_succ_cons, List.drop_zero, List.map_cons, List.map_nil, cat_i, cat_r, cat_n, Nat.reduceLeDiff, true_and, and_true, decide_true, Option.toList_some, Option.toList_none, and_self, Nat.le_refl, mj_vr, mj_zr, mj_th, wo_thr, mxl_0, mxl_1, mxl_2, mxl_3, mxl_4, mxl_5, mxl_6, mxl_7, mxl_8, mxl_9, mxl_10, mxl_11, mxl_12, mxl_13, mxl_14, mxl_15, mxl_16, mxl_17, mxl_18, mxl_19, mxl_20, mxl_21, mxl_22, mxl_23, mxl_24, mxl_25, mxl_26, mxl_27, mxl_28, mxl_29, mxl_30, mxl_31, mxl_32, mxl_33, mxl_34, mxl_35, mxl_36, mxl_37, mxl_38, mxl_39, mxl_40, mxl_41, mxl_42, mxl_43, mxl_44, mxl_45, mxl_46, mxl_47, mxl_48, mxl_49, mxl_50, mxl_51, mxl_52, mxl_53, mxl_54, mxl_55, mxl_56, mxl_57, mxl_58, mxl_59, mxl_60, mxl_61, mxl_62, mxl_63, mxl_64, mxl_65, mxl_66, mxl_67, mxl_68, mxl_69, mxl_70, mxl_71, mxl_72, mxl_73, mxl_74, mxl_75, mxl_76, mxl_77, mxl_78, mxl_79, mxl_80, mxl_81, mxl_82, mxl_83, mxl_84, mxl_85, mxl_86, mxl_136, mxl_137, mj_il, mj_ia, mj_is, mj_sa, mj_zs, mj_pf, mj_sf, mj_fit, Option.isSome_some, mj_pop, mj_dup2, mj_mm, ar_0, ar_1, cs_rf, mj_aald, kr_5, kr_7, va_rf, true_or, or_true, g13, g14, c1]
    exact C_pp (s := s) (Or.inr ⟨hx1, rfl⟩) I D ho (by omega) (sv s S) hp (by omega) (by omega) (by rw [e30]; exact m0) (by rw [e30]; exact m1) hl hQ
  | succ j ih =>
    intro c h A s σ X O2 U l5 I D S ho hc
    have e1 : s.1 = s0.1 := D.1.2.2.1
    have hx1 : x < s.1 := by rw [e1]; exact hx
    have e30 : cs_v s 30 p = cs_v s0 30 p := D.2.2 p (List.mem_append_right _ hp)
    have g0 := cs_g (k := 0) (i := 0) I.1 rfl
    have g3 := cs_g (k := 3) (i := 0) I.1 rfl
    have g13 := cs_g (k := 13) (i := x) I.1 (if_pos hx1)
    have g14 := cs_g (k := 14) (i := x) I.1 (if_pos hx1)
    rw [S 14 x (by decide) (by decide) (by decide) (by decide) (by decide), he] at g14
    have g16 := cs_g (k := 16) (i := x) I.1 (if_pos hx1)
    have g30 := cs_g (k := 30) (i := p) I.1 (if_pos (hd_lt I hp))
    rw [e30, m0, m1] at g30
    have c1 : ¬ nI en ≤ nI c := nI_ge (by omega) (by omega)
    have hix : mj_ix (nI c) 100 = true := ix_of (by omega) (by decide)
    have hcl : (nI c).toNatClampNeg = c := nI_clamp (by omega)
    rw [← D.1.1 0 0 (by decide), ← D.1.1 9 x (by decide), ← D.1.1 13 x (by decide), ← D.1.2.1 p hp0, r66_58]
    simp only [r66_60, r66_61, r66_64, r66_67, r66_70, r66_71, r66_74, r66_76, wo_nx, wo_ret, wo_ite, wo_call, bk_inl, mj_lda, mj_ldi, mj_sti, mj_sta, mj_b2, mj_br1, mj_br2, mj_brn, mj_ir, mj_rr, mj_nx, mj_gf, mj_fld, mj_k2, mj_rc, mj_cls, mj_dup, mj_inc, List.getElem?_cons_zero, List.getElem?_cons_succ, List.length_cons, List.length_nil, List.set_cons_succ, List.set_cons_zero, Nat.reduceAdd, Nat.reduceLT, if_true, if_false, mj_iif, decide_eq_true_eq, List.take_succ_cons, List.take_zero, List.reverse_cons, List.reverse_nil, List.nil_append, List.cons_append, List.drop_succ_cons, List.drop_zero, List.map_cons, List.map_nil, cat_i, cat_r, cat_n, Nat.reduceLeDiff, true_and, and_true, decide_true, Option.toList_some, Option.toList_none, and_self, Nat.le_refl, mj_vr, mj_zr, mj_th, wo_thr, mxl_0, mxl_1, mxl_2, mxl_3, mxl_4, mxl_5, mxl_6, mxl_7, mxl_8, mxl_9, mxl_10, mxl_11, mxl_12, mxl_13, mxl_14, mxl_15, mxl_16, mxl_17, mxl_18, mxl_19, mxl_20, mxl_21, mxl_22, mxl_23, mxl_24, mxl_25, mxl_26, mxl_27, mxl_28, mxl_29, mxl_30, mxl_31, mxl_32, mxl_33, mxl_34, mxl_35, mxl_36, mxl_37, mxl_38, mxl_39, mxl_40, mxl_41, mxl_42, mxl_43, mxl_44, mxl_45, mxl_46, mxl_47, mxl_48, mxl_49, mxl_50, mxl_51, mxl_52, mxl_53, mxl_54, mxl_55, mxl_56, mxl_57, mxl_58, mxl_59, mxl_60, mxl_61, mxl_62, mxl_63, mxl_64, mxl_65, mxl_66, mxl_67, mxl_68, mxl_69, mxl_70, mxl_71, mxl_72, mxl_73, mxl_74, mxl_75, mxl_76, mxl_77, mxl_78, mxl_79, mxl_80, mxl_81, mxl_82, mxl_83, mxl_84, mxl_85, mxl_86, mxl_136, mxl_137, mj_il, mj_ia, mj_is, mj_sa, mj_zs, mj_pf, mj_sf, mj_fit, Option.isSome_some, mj_pop, mj_dup2, mj_mm, ar_0, ar_1, cs_rf, mj_aald, kr_5, kr_7, va_rf, true_or, or_true, g13, g14, c1, C_has I.1 hx1 (show c < 100 by omega)]
    by_cases hh : cs_v s 15 x c = 0
    · simp only [r66_79, r66_112, r66_115, wo_nx, wo_ret, wo_ite, wo_call, bk_inl, mj_lda, mj_ldi, mj_sti, mj_sta, mj_b2, mj_br1, mj_br2, mj_brn, mj_ir, mj_rr, mj_nx, mj_gf, mj_fld, mj_k2, mj_rc, mj_cls, mj_dup, mj_inc, List.getElem?_cons_zero, List.getElem?_cons_succ, List.length_cons, List.length_nil, List.set_cons_succ, List.set_cons_zero, Nat.reduceAdd, Nat.reduceLT, if_true, if_false, mj_iif, decide_eq_true_eq, List.take_succ_cons, List.take_zero, List.reverse_cons, List.reverse_nil, List.nil_append, List.cons_append, List.drop_succ_cons, List.drop_zero, List.map_cons, List.map_nil, cat_i, cat_r, cat_n, Nat.reduceLeDiff, true_and, and_true, decide_true, Option.toList_some, Option.toList_none, and_self, Nat.le_refl, mj_vr, mj_zr, mj_th, wo_thr, mxl_0, mxl_1, mxl_2, mxl_3, mxl_4, mxl_5, mxl_6, mxl_7, mxl_8, mxl_9, mxl_10, mxl_11, mxl_12, mxl_13, mxl_14, mxl_15, mxl_16, mxl_17, mxl_18, mxl_19, mxl_20, mxl_21, mxl_22, mxl_23, mxl_24, mxl_25, mxl_26, mxl_27, mxl_28, mxl_29, mxl_30, mxl_31, mxl_32, mxl_33, mxl_34, mxl_35, mxl_36, mxl_37, mxl_38, mxl_39, mxl_40, mxl_41, mxl_42, mxl_43, mxl_44, mxl_45, mxl_46, mxl_47, mxl_48, mxl_49, mxl_50, mxl_51, mxl_52, mxl_53, mxl_54, mxl_55, mxl_56, mxl_57, mxl_58, mxl_59, mxl_60, mxl_61, mxl_62, mxl_63, mxl_64, mxl_65, mxl_66, mxl_67, mxl_68, mxl_69, mxl_70, mxl_71, mxl_72, mxl_73, mxl_74, mxl_75, mxl_76, mxl_77, mxl_78, mxl_79, mxl_80, mxl_81, mxl_82, mxl_83, mxl_84, mxl_85, mxl_86, mxl_136, mxl_137, mj_il, mj_ia, mj_is, mj_sa, mj_zs, mj_pf, mj_sf, mj_fit, Option.isSome_some, mj_pop, mj_dup2, mj_mm, ar_0, ar_1, cs_rf, mj_aald, kr_5, kr_7, va_rf, true_or, or_true, hh, nI_1]
      rw [D.1.1 0 0 (by decide), D.1.1 9 x (by decide), D.1.1 13 x (by decide), D.1.2.1 p hp0]
      exact ih (c + 1) (by omega) A s σ X O2 U _ I D S ho (by omega)
    · simp only [r66_79, r66_82, r66_83, r66_86, r66_87, r66_90, r66_91, r66_94, r66_95, r66_96, r66_98, r66_99, r66_102, r66_105, r66_107, r66_108, wo_nx, wo_ret, wo_ite, wo_call, bk_inl, mj_lda, mj_ldi, mj_sti, mj_sta, mj_b2, mj_br1, mj_br2, mj_brn, mj_ir, mj_rr, mj_nx, mj_gf, mj_fld, mj_k2, mj_rc, mj_cls, mj_dup, mj_inc, List.getElem?_cons_zero, List.getElem?_cons_succ, List.length_cons, List.length_nil, List.set_cons_succ, List.set_cons_zero, Nat.reduceAdd, Nat.reduceLT, if_true, if_false, mj_iif, decide_eq_true_eq, List.take_succ_cons, List.take_zero, List.reverse_cons, List.reverse_nil, List.nil_append, List.cons_append, List.drop_succ_cons, List.drop_zero, List.map_cons, List.map_nil, cat_i, cat_r, cat_n, Nat.reduceLeDiff, true_and, and_true, decide_true, Option.toList_some, Option.toList_none, and_self, Nat.le_refl, mj_vr, mj_zr, mj_th, wo_thr, mxl_0, mxl_1, mxl_2, mxl_3, mxl_4, mxl_5, mxl_6, mxl_7, mxl_8, mxl_9, mxl_10, mxl_11, mxl_12, mxl_13, mxl_14, mxl_15, mxl_16, mxl_17, mxl_18, mxl_19, mxl_20, mxl_21, mxl_22, mxl_23, mxl_24, mxl_25, mxl_26, mxl_27, mxl_28, mxl_29, mxl_30, mxl_31, mxl_32, mxl_33, mxl_34, mxl_35, mxl_36, mxl_37, mxl_38, mxl_39, mxl_40, mxl_41, mxl_42, mxl_43, mxl_44, mxl_45, mxl_46, mxl_47, mxl_48, mxl_49, mxl_50, mxl_51, mxl_52, mxl_53, mxl_54, mxl_55, mxl_56, mxl_57, mxl_58, mxl_59, mxl_60, mxl_61, mxl_62, mxl_63, mxl_64, mxl_65, mxl_66, mxl_67, mxl_68, mxl_69, mxl_70, mxl_71, mxl_72, mxl_73, mxl_74, mxl_75, mxl_76, mxl_77, mxl_78, mxl_79, mxl_80, mxl_81, mxl_82, mxl_83, mxl_84, mxl_85, mxl_86, mxl_136, mxl_137, mj_il, mj_ia, mj_is, mj_sa, mj_zs, mj_pf, mj_sf, mj_fit, Option.isSome_some, mj_pop, mj_dup2, mj_mm, ar_0, ar_1, cs_rf, mj_aald, kr_5, kr_7, va_rf, true_or, or_true, hh, k_10, g0, g3, g13, g14, g16, g30, hix, hcl]
      refine C_snd I (by omega) (by omega) (show c ≤ 100 by omega) (fun _ => by omega) (by rw [List.length_append]; omega) (fun A2 s2 τ2 X2 O22 U2 o I2 D2 S2 h1 _ => ?_)
      have kept : ∀ q, q ∈ O2 → cs_v s2 30 q = cs_v s 30 q := fun q hq => D2.2.2 q (by simp only [List.mem_append]; exact Or.inl (Or.inr (Or.inr hq)))
      have ho2 : ((¬ x = y → O2 ++ O22 = []) ∧ ∀ q ∈ O2 ++ O22, ¬ cs_v s2 30 q 2 = 1 ∧ cs_v s2 30 q 1 = nI y) ∧ (O2 ++ O22).length ≤ O2.length + 1 := by
        rcases h1 with rfl | ⟨e, q, rfl, hq⟩
        · rw [List.append_nil]
          exact ⟨⟨ho.1, fun q hq => by rw [kept q hq]; exact ho.2 q hq⟩, by omega⟩
        · refine ⟨⟨fun h => absurd e h, fun q' hq' => ?_⟩, by rw [List.length_append]; exact Nat.le_refl _⟩
          rcases List.mem_append.mp hq' with h | h
          · rw [kept q' h]
            exact ho.2 q' h
          · rw [List.mem_singleton.mp h, hq]
            exact ⟨(by decide : ¬ (5 : Int32) = 1), rfl⟩
      rw [List.append_assoc, List.append_assoc] at I2
      have D3 : ct_D A0 s0 σ0 A2 s2 τ2 (W ++ O ++ hd) := D_tr D D2 sub3
      have S3 := S_tr S S2
      have hl2 := ho2.2
      cases o <;> simp only [r66_111, r66_112, r66_115, wo_nx, wo_ret, wo_ite, wo_call, bk_inl, mj_lda, mj_ldi, mj_sti, mj_sta, mj_b2, mj_br1, mj_br2, mj_brn, mj_ir, mj_rr, mj_nx, mj_gf, mj_fld, mj_k2, mj_rc, mj_cls, mj_dup, mj_inc, List.getElem?_cons_zero, List.getElem?_cons_succ, List.length_cons, List.length_nil, List.set_cons_succ, List.set_cons_zero, Nat.reduceAdd, Nat.reduceLT, if_true, if_false, mj_iif, decide_eq_true_eq, List.take_succ_cons, List.take_zero, List.reverse_cons, List.reverse_nil, List.nil_append, List.cons_append, List.drop_succ_cons, List.drop_zero, List.map_cons, List.map_nil, cat_i, cat_r, cat_n, Nat.reduceLeDiff, true_and, and_true, decide_true, Option.toList_some, Option.toList_none, and_self, Nat.le_refl, mj_vr, mj_zr, mj_th, wo_thr, mxl_0, mxl_1, mxl_2, mxl_3, mxl_4, mxl_5, mxl_6, mxl_7, mxl_8, mxl_9, mxl_10, mxl_11, mxl_12, mxl_13, mxl_14, mxl_15, mxl_16, mxl_17, mxl_18, mxl_19, mxl_20, mxl_21, mxl_22, mxl_23, mxl_24, mxl_25, mxl_26, mxl_27, mxl_28, mxl_29, mxl_30, mxl_31, mxl_32, mxl_33, mxl_34, mxl_35, mxl_36, mxl_37, mxl_38, mxl_39, mxl_40, mxl_41, mxl_42, mxl_43, mxl_44, mxl_45, mxl_46, mxl_47, mxl_48, mxl_49, mxl_50, mxl_51, mxl_52, mxl_53, mxl_54, mxl_55, mxl_56, mxl_57, mxl_58, mxl_59, mxl_60, mxl_61, mxl_62, mxl_63, mxl_64, mxl_65, mxl_66, mxl_67, mxl_68, mxl_69, mxl_70, mxl_71, mxl_72, mxl_73, mxl_74, mxl_75, mxl_76, mxl_77, mxl_78, mxl_79, mxl_80, mxl_81, mxl_82, mxl_83, mxl_84, mxl_85, mxl_86, mxl_136, mxl_137, mj_il, mj_ia, mj_is, mj_sa, mj_zs, mj_pf, mj_sf, mj_fit, Option.isSome_some, mj_pop, mj_dup2, mj_mm, ar_0, ar_1, cs_rf, mj_aald, kr_5, kr_7, va_rf, true_or, or_true, cs_o, nI_1] <;> rw [D.1.1 0 0 (by decide), D.1.1 9 x (by decide), D.1.1 13 x (by decide), D.1.2.1 p hp0] <;> exact ih (c + 1) (by omega) A2 s2 τ2 (X ++ X2) (O2 ++ O22) U2 _ I2 D3 S3 ho2.1 (by omega)
theorem mx_0 {t : Nat} (ht : t ≤ 100) : (if (0 : Int32) < nI t then nI t else 0) = nI t := by
  by_cases h : t = 0
  · subst h
    rfl
  · rw [if_pos]
    rw [← nI_0]
    exact nI_lt (by omega) (by omega)
/-- onPrepare(node, main, x) -/
theorem C_onPrep {mv : Value} (hmv : (¬ x < s.1 ∧ mv = .null) ∨ (x < s.1 ∧ mv = .ref (A (13, x)))) (I : ct_I ar A s σ W O U hd) (hp : p ∈ hd) (hx : x < 2 * s.1 - 1) (hy : y < 2 * s.1 - 1) (m0 : cs_v s 30 p 0 = nI y) (m1 : cs_v s 30 p 1 = nI x) (m4 : cs_v s 30 p 4 = nI t) (ht : t ≤ 100) (hl : O.length + hd.length ≤ 190) (hQ : ∀ τ, ct_H ar A s σ W O hd x y 1 τ → Q (.inl none) τ) : mj_wp (tb ar) 66 (mj_en (tb ar) 66 [.ref (A (0, 0)), .ref (A (9, x)), mv, .ref (A (30, p))] σ) Q := by
  rw [ent_66]
  have g0 := cs_g (k := 0) (i := 0) I.1 rfl
  have g3 := cs_g (k := 3) (i := 0) I.1 rfl
  have g9 := cs_g (k := 9) (i := x) I.1 (if_pos hx)
  have g30 := cs_g (k := 30) (i := p) I.1 (if_pos (hd_lt I hp))
  rw [m0, m1, m4] at g30
  by_cases hb : cs_v s 9 x 2 ≤ cs_v s 30 p 3
  · simp only [r66_0, r66_1, r66_4, r66_5, r66_8, r66_36, r66_37, r66_38, r66_41, wo_nx, wo_ret, wo_ite, wo_call, bk_inl, mj_lda, mj_ldi, mj_sti, mj_sta, mj_b2, mj_br1, mj_br2, mj_brn, mj_ir, mj_rr, mj_nx, mj_gf, mj_fld, mj_k2, mj_rc, mj_cls, mj_dup, mj_inc, List.getElem?_cons_zero, List.getElem?_cons_succ, List.length_cons, List.length_nil, List.set_cons_succ, List.set_cons_zero, Nat.reduceAdd, Nat.reduceLT, if_true, if_false, mj_iif, decide_eq_true_eq, List.take_succ_cons, List.take_zero, List.reverse_cons, List.reverse_nil, List.nil_append, List.cons_append, List.drop_succ_cons, List.drop_zero, List.map_cons, List.map_nil, cat_i, cat_r, cat_n, Nat.reduceLeDiff, true_and, and_true, decide_true, Option.toList_some, Option.toList_none, and_self, Nat.le_refl, mj_vr, mj_zr, mj_th, wo_thr, mxl_0, mxl_1, mxl_2, mxl_3, mxl_4, mxl_5, mxl_6, mxl_7, mxl_8, mxl_9, mxl_10, mxl_11, mxl_12, mxl_13, mxl_14, mxl_15, mxl_16, mxl_17, mxl_18, mxl_19, mxl_20, mxl_21, mxl_22, mxl_23, mxl_24, mxl_25, mxl_26, mxl_27, mxl_28, mxl_29, mxl_30, mxl_31, mxl_32, mxl_33, mxl_34, mxl_35, mxl_36, mxl_37, mxl_38, mxl_39, mxl_40, mxl_41, mxl_42, mxl_43, mxl_44, mxl_45, mxl_46, mxl_47, mxl_48, mxl_49, mxl_50, mxl_51, mxl_52, mxl_53, mxl_54, mxl_55, mxl_56, mxl_57, mxl_58, mxl_59, mxl_60, mxl_61, mxl_62, mxl_63, mxl_64, mxl_65, mxl_66, mxl_67, mxl_68, mxl_69, mxl_70, mxl_71, mxl_72, mxl_73, mxl_74, mxl_75, mxl_76, mxl_77, mxl_78, mxl_79, mxl_80, mxl_81, mxl_82, mxl_83, mxl_84, mxl_85, mxl_86, mxl_136, mxl_137, mj_il, mj_ia, mj_is, mj_sa, mj_zs, mj_pf, mj_sf, mj_fit, Option.isSome_some, mj_pop, mj_dup2, mj_mm, ar_0, ar_1, cs_rf, mj_aald, kr_5, kr_7, va_rf, true_or, or_true, g9, g30, hb]
    have I1 := I_q I (q9_2 (x := x) (v := cs_v s 30 p 3)) (R_cu I.2.2.2 trivial) (t9_2 (v := cs_v s 30 p 3) I.1 hx)
    have q1 : ct_q s (cs_u s 9 x (upd (cs_v s 9 x) 2 (cs_v s 30 p 3))) := q9_2
    have D1 : ct_D A s σ A (cs_u s 9 x (upd (cs_v s 9 x) 2 (cs_v s 30 p 3))) (mj_up σ (A (9, x)) (.inr (5, [.ref (A (10, x)), .int (cs_v s 9 x 1), .int (cs_v s 30 p 3), .int (cs_v s 9 x 3)]))) (W ++ O ++ hd) := D_q q1 ⟨rfl, rfl⟩
    have r1 : ct_rl s (cs_u s 9 x (upd (cs_v s 9 x) 2 (cs_v s 30 p 3))) x := crl_of (by rw [cs_u_ne (by omega)]) (by rw [cs_u_ne (by omega)])
    generalize mj_up σ (A (9, x)) (.inr (5, [.ref (A (10, x)), .int (cs_v s 9 x 1), .int (cs_v s 30 p 3), .int (cs_v s 9 x 3)])) = σ1 at I1 D1 ⊢
    generalize cs_u s 9 x (upd (cs_v s 9 x) 2 (cs_v s 30 p 3)) = s1 at I1 D1 q1 r1
    have e1 : s1.1 = s.1 := q1.1
    have hx1 : x < 2 * s1.1 - 1 := by rw [e1]; exact hx
    have hy1 : y < 2 * s1.1 - 1 := by rw [e1]; exact hy
    have e30 : cs_v s1 30 p = cs_v s 30 p := q1.2.2.2.2.1 30 p (by omega)
    have I1' : ct_I ar A s1 σ1 (W ++ []) (O ++ []) U hd := by
      rw [List.append_nil, List.append_nil]
      exact I1
    have hQ' : ∀ τ, ct_H ar A s1 σ1 W O hd x y 1 τ → Q (.inl none) τ := fun τ h => hQ τ (cH_pre h D1 (fun _ => r1))
    rcases hmv with ⟨hxm, rfl⟩ | ⟨hxm, rfl⟩
    · simp only [r66_44, r66_45, wo_nx, wo_ret, wo_ite, wo_call, bk_inl, mj_lda, mj_ldi, mj_sti, mj_sta, mj_b2, mj_br1, mj_br2, mj_brn, mj_ir, mj_rr, mj_nx, mj_gf, mj_fld, mj_k2, mj_rc, mj_cls, mj_dup, mj_inc, List.getElem?_cons_zero, List.getElem?_cons_succ, List.length_cons, List.length_nil, List.set_cons_succ, List.set_cons_zero, Nat.reduceAdd, Nat.reduceLT, if_true, if_false, mj_iif, decide_eq_true_eq, List.take_succ_cons, List.take_zero, List.reverse_cons, List.reverse_nil, List.nil_append, List.cons_append, List.drop_succ_cons, List.drop_zero, List.map_cons, List.map_nil, cat_i, cat_r, cat_n, Nat.reduceLeDiff, true_and, and_true, decide_true, Option.toList_some, Option.toList_none, and_self, Nat.le_refl, mj_vr, mj_zr, mj_th, wo_thr, mxl_0, mxl_1, mxl_2, mxl_3, mxl_4, mxl_5, mxl_6, mxl_7, mxl_8, mxl_9, mxl_10, mxl_11, mxl_12, mxl_13, mxl_14, mxl_15, mxl_16, mxl_17, mxl_18, mxl_19, mxl_20, mxl_21, mxl_22, mxl_23, mxl_24, mxl_25, mxl_26, mxl_27, mxl_28, mxl_29, mxl_30, mxl_31, mxl_32, mxl_33, mxl_34, mxl_35, mxl_36, mxl_37, mxl_38, mxl_39, mxl_40, mxl_41, mxl_42, mxl_43, mxl_44, mxl_45, mxl_46, mxl_47, mxl_48, mxl_49, mxl_50, mxl_51, mxl_52, mxl_53, mxl_54, mxl_55, mxl_56, mxl_57, mxl_58, mxl_59, mxl_60, mxl_61, mxl_62, mxl_63, mxl_64, mxl_65, mxl_66, mxl_67, mxl_68, mxl_69, mxl_70, mxl_71, mxl_72, mxl_73, mxl_74, mxl_75, mxl_76, mxl_77, mxl_78, mxl_79, mxl_80, mxl_81, mxl_82, mxl_83, mxl_84, mxl_85, mxl_86, mxl_136, mxl_137, mj_il, mj_ia, mj_is, mj_sa, mj_zs, mj_pf, mj_sf, mj_fit, Option.isSome_some, mj_pop, mj_dup2, mj_mm, ar_0, ar_1, cs_rf, mj_aald, kr_5, kr_7, va_rf, true_or, or_true]
      exact C_pp (s := s1) (Or.inl rfl) I1' D_rf ⟨fun _ => rfl, fun q hq => by cases hq⟩ (Nat.zero_le _) (fun _ => crl_rf) hp hx1 hy1 (by rw [e30]; exact m0) (by rw [e30]; exact m1) hl hQ'
    · have G30 := cs_g (k := 30) (i := p) I1.1 (if_pos (hd_lt I1 hp))
      rw [e30, m0, m1, m4] at G30
      obtain ⟨_, en, -, -, n1, n2⟩ := I1.2.2.2 14 x
      simp only [r66_44, r66_45, r66_48, r66_49, r66_50, r66_53, r66_56, wo_nx, wo_ret, wo_ite, wo_call, bk_inl, mj_lda, mj_ldi, mj_sti, mj_sta, mj_b2, mj_br1, mj_br2, mj_brn, mj_ir, mj_rr, mj_nx, mj_gf, mj_fld, mj_k2, mj_rc, mj_cls, mj_dup, mj_inc, List.getElem?_cons_zero, List.getElem?_cons_succ, List.length_cons, List.length_nil, List.set_cons_succ, List.set_cons_zero, Nat.reduceAdd, Nat.reduceLT, if_true, if_false, mj_iif, decide_eq_true_eq, List.take_succ_cons, List.take_zero, List.reverse_cons, List.reverse_nil, List.nil_append, List.cons_append, List.drop_succ_cons, List.drop_zero, List.map_cons, List.map_nil, cat_i, cat_r, cat_n, Nat.reduceLeDiff, true_and, and_true, decide_true, Option.toList_some, Option.toList_none, and_self, Nat.le_refl, mj_vr, mj_zr, mj_th, wo_thr, mxl_0, mxl_1, mxl_2, mxl_3, mxl_4, mxl_5, mxl_6, mxl_7, mxl_8, mxl_9, mxl_10, mxl_11, mxl_12, mxl_13, mxl_14, mxl_15, mxl_16, mxl_17, mxl_18, mxl_19, mxl_20, mxl_21, mxl_22, mxl_23, mxl_24, mxl_25, mxl_26, mxl_27, mxl_28, mxl_29, mxl_30, mxl_31, mxl_32, mxl_33, mxl_34, mxl_35, mxl_36, mxl_37, mxl_38, mxl_39, mxl_40, mxl_41, mxl_42, mxl_43, mxl_44, mxl_45, mxl_46, mxl_47, mxl_48, mxl_49, mxl_50, mxl_51, mxl_52, mxl_53, mxl_54, mxl_55, mxl_56, mxl_57, mxl_58, mxl_59, mxl_60, mxl_61, mxl_62, mxl_63, mxl_64, mxl_65, mxl_66, mxl_67, mxl_68, mxl_69, mxl_70, mxl_71, mxl_72, mxl_73, mxl_74, mxl_75, mxl_76, mxl_77, mxl_78, mxl_79, mxl_80, mxl_81, mxl_82, mxl_83, mxl_84, mxl_85, mxl_86, mxl_136, mxl_137, mj_il, mj_ia, mj_is, mj_sa, mj_zs, mj_pf, mj_sf, mj_fit, Option.isSome_some, mj_pop, mj_dup2, mj_mm, ar_0, ar_1, cs_rf, mj_aald, kr_5, kr_7, va_rf, true_or, or_true, G30, mx_0 ht]
      exact op_loop (s0 := s1) (by rw [e1]; exact hxm) hy1 hp (by rw [e30]; exact m0) (by rw [e30]; exact m1) n1 n2 hl (hd_lt I1 hp) hQ' (en - t) t (by omega) A s1 σ1 [] [] U _ I1' D_rf S_rf ⟨fun _ => rfl, fun q hq => by cases hq⟩ (by show 0 + (en - t) ≤ 100; omega)
  · simp only [r66_0, r66_1, r66_4, r66_5, r66_8, r66_11, r66_12, r66_15, r66_16, r66_19, r66_20, r66_23, r66_25, r66_26, r66_29, r66_30, r66_31, wo_nx, wo_ret, wo_ite, wo_call, bk_inl, mj_lda, mj_ldi, mj_sti, mj_sta, mj_b2, mj_br1, mj_br2, mj_brn, mj_ir, mj_rr, mj_nx, mj_gf, mj_fld, mj_k2, mj_rc, mj_cls, mj_dup, mj_inc, List.getElem?_cons_zero, List.getElem?_cons_succ, List.length_cons, List.length_nil, List.set_cons_succ, List.set_cons_zero, Nat.reduceAdd, Nat.reduceLT, if_true, if_false, mj_iif, decide_eq_true_eq, List.take_succ_cons, List.take_zero, List.reverse_cons, List.reverse_nil, List.nil_append, List.cons_append, List.drop_succ_cons, List.drop_zero, List.map_cons, List.map_nil, cat_i, cat_r, cat_n, Nat.reduceLeDiff, true_and, and_true, decide_true, Option.toList_some, Option.toList_none, and_self, Nat.le_refl, mj_vr, mj_zr, mj_th, wo_thr, mxl_0, mxl_1, mxl_2, mxl_3, mxl_4, mxl_5, mxl_6, mxl_7, mxl_8, mxl_9, mxl_10, mxl_11, mxl_12, mxl_13, mxl_14, mxl_15, mxl_16, mxl_17, mxl_18, mxl_19, mxl_20, mxl_21, mxl_22, mxl_23, mxl_24, mxl_25, mxl_26, mxl_27, mxl_28, mxl_29, mxl_30, mxl_31, mxl_32, mxl_33, mxl_34, mxl_35, mxl_36, mxl_37, mxl_38, mxl_39, mxl_40, mxl_41, mxl_42, mxl_43, mxl_44, mxl_45, mxl_46, mxl_47, mxl_48, mxl_49, mxl_50, mxl_51, mxl_52, mxl_53, mxl_54, mxl_55, mxl_56, mxl_57, mxl_58, mxl_59, mxl_60, mxl_61, mxl_62, mxl_63, mxl_64, mxl_65, mxl_66, mxl_67, mxl_68, mxl_69, mxl_70, mxl_71, mxl_72, mxl_73, mxl_74, mxl_75, mxl_76, mxl_77, mxl_78, mxl_79, mxl_80, mxl_81, mxl_82, mxl_83, mxl_84, mxl_85, mxl_86, mxl_136, mxl_137, mj_il, mj_ia, mj_is, mj_sa, mj_zs, mj_pf, mj_sf, mj_fit, Option.isSome_some, mj_pop, mj_dup2, mj_mm, ar_0, ar_1, cs_rf, mj_aald, kr_5, kr_7, va_rf, true_or, or_true, g0, g3, g9, g30, hb]
    refine C_snd (t := 0) I hx hy (by decide) (fun h => absurd h (by decide)) (by omega) (fun A1 s1 σ1 X1 O21 U1 o I1 D1 S1 h1 _ => ?_)
    have hf : Q (.inl none) σ1 := by
      refine hQ σ1 ⟨A1, s1, X1, O21, U1, I1, D1, ?_, Or.inl ⟨rfl, ?_⟩, fun _ => crl_of (by rw [S1 20 x (by decide) (by decide) (by decide) (by decide) (by decide)]) (S1 22 x (by decide) (by decide) (by decide) (by decide) (by decide))⟩
      · rcases h1 with rfl | ⟨e, q, rfl, hq⟩
        · exact ⟨fun _ => rfl, fun q hq => by cases hq⟩
        · refine ⟨fun h => absurd e h, fun q' hq' => ?_⟩
          rw [List.mem_singleton.mp hq', hq]
          rfl
      · rcases h1 with rfl | ⟨e, q, rfl, hq⟩
        · exact ⟨Nat.zero_le _, fun q hq => by cases hq⟩
        · refine ⟨by show 0 + 1 ≤ 101; decide, fun q' hq' => ?_⟩
          rw [List.mem_singleton.mp hq', hq]
          show ¬ (8 : Int32) = 1
          decide
    cases o <;> simp only [r66_34, r66_35, wo_nx, wo_ret, wo_ite, wo_call, bk_inl, mj_lda, mj_ldi, mj_sti, mj_sta, mj_b2, mj_br1, mj_br2, mj_brn, mj_ir, mj_rr, mj_nx, mj_gf, mj_fld, mj_k2, mj_rc, mj_cls, mj_dup, mj_inc, List.getElem?_cons_zero, List.getElem?_cons_succ, List.length_cons, List.length_nil, List.set_cons_succ, List.set_cons_zero, Nat.reduceAdd, Nat.reduceLT, if_true, if_false, mj_iif, decide_eq_true_eq, List.take_succ_cons, List.take_zero, List.reverse_cons, List.reverse_nil, List.nil_append, List.cons_append, List.drop_succ_cons, List.drop_zero, List.map_cons, List.map_nil, cat_i, cat_r, cat_n, Nat.reduceLeDiff, true_and, and_true, decide_true, Option.toList_some, Option.toList_none, and_self, Nat.le_refl, mj_vr, mj_zr, mj_th, wo_thr, mxl_0, mxl_1, mxl_2, mxl_3, mxl_4, mxl_5, mxl_6, mxl_7, mxl_8, mxl_9, mxl_10, mxl_11, mxl_12, mxl_13, mxl_14, mxl_15, mxl_16, mxl_17, mxl_18, mxl_19, mxl_20, mxl_21, mxl_22, mxl_23, mxl_24, mxl_25, mxl_26, mxl_27, mxl_28, mxl_29, mxl_30, mxl_31, mxl_32, mxl_33, mxl_34, mxl_35, mxl_36, mxl_37, mxl_38, mxl_39, mxl_40, mxl_41, mxl_42, mxl_43, mxl_44, mxl_45, mxl_46, mxl_47, mxl_48, mxl_49, mxl_50, mxl_51, mxl_52, mxl_53, mxl_54, mxl_55, mxl_56, mxl_57, mxl_58, mxl_59, mxl_60, mxl_61, mxl_62, mxl_63, mxl_64, mxl_65, mxl_66, mxl_67, mxl_68, mxl_69, mxl_70, mxl_71, mxl_72, mxl_73, mxl_74, mxl_75, mxl_76, mxl_77, mxl_78, mxl_79, mxl_80, mxl_81, mxl_82, mxl_83, mxl_84, mxl_85, mxl_86, mxl_136, mxl_137, mj_il, mj_ia, mj_is, mj_sa, mj_zs, mj_pf, mj_sf, mj_fit, Option.isSome_some, mj_pop, mj_dup2, mj_mm, ar_0, ar_1, cs_rf, mj_aald, kr_5, kr_7, va_rf, true_or, or_true, cs_o] <;> exact hf
end DH
