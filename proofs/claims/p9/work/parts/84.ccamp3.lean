section CW
variable {ar : Nat → ClassId} {A : tg_T → Nat} {s s' : cs_S} {σ : mj_S} {m x : Nat} {b : Int32} {Q : (Option Value ⊕ String) → mj_S → Prop}
theorem M_of {g : Nat} (h : cs_M s g) (e1 : s'.2.1 = s.2.1) (er : cs_r s' = cs_r s) (e3 : cs_v s' 3 0 = cs_v s 3 0) (e4 : cs_v s' 4 0 = cs_v s 4 0) (e6 : cs_v s' 6 0 = cs_v s 6 0) : cs_M s' g := by
  obtain ⟨hL, h4, n4, h6, n6, u, q4, q6, hu, hun, hc, hm⟩ := h
  refine ⟨fun k j y hy => ?_, h4, n4, h6, n6, u, cs_Q_of e4 (by rw [er]) q4, cs_Q_of e6 (by rw [er]) q6, by rw [e3]; exact hu, by rw [er]; exact hun, by rw [e1]; exact hc, by rw [e1]; exact hm⟩
  rw [er] at hy
  rw [e1]
  exact hL k j y hy
/-- what stands behind its own PREPARE -/
def cc_P (s : cs_S) (x hd : Nat) (b : Int32) (s' : cs_S) : Prop := s'.1 = s.1 ∧ s'.2.1 = s.2.1 + 1 ∧ cs_M s' 1 ∧ cs_v s' 3 0 3 = nI 0 ∧ cs_v s' 6 0 1 = nI hd ∧ cs_v s' 6 0 2 = nI 1 ∧ cs_r s' 7 (hd % 300) = some s.2.1 ∧ cs_v s' 30 s.2.1 = cs_six (nI x) (nI x) 2 b 0 0 ∧ s'.2.2.1 s.2.1 = true ∧ cs_v s' 31 s.2.1 2 = 0 ∧ cs_v s' 31 s.2.1 3 = nI 0 ∧ ∀ k i, k ≠ 3 → k ≠ 6 → k ≠ 9 → k ≠ 30 → k ≠ 31 → k ≠ 32 → k ≠ 33 → cs_v s' k i = cs_v s k i
theorem C_op {p hd : Nat} (h : tg_R A (cs_h ar A s) σ) (hB : cs_B s) (hi : x < s.1) (hp : p < s.2.1) (hv : cs_v s 30 p = cs_six (nI x) (nI x) 1 b 0 0) (hM : cs_M s 1) (h3 : cs_v s 3 0 3 = nI 0) (h61 : cs_v s 6 0 1 = nI hd) (hd3 : hd < 300) (h62 : cs_v s 6 0 2 = nI 0) (htd : s.2.2.1 = fun _ => false) (h92 : cs_v s 9 x 2 ≤ b) (h14 : cs_v s 14 x 5 = 0) (h102 : cs_v s 10 x 2 = 0) (h103 : cs_v s 10 x 3 = nI 0) (hQ : ∀ A' τ s', cc_P s x hd b s' → (∀ k i, k < 30 ∨ (k = 30 ∧ i < s.2.1) → A' (k, i) = A (k, i)) → tg_R A' (cs_h ar A' s') τ → τ.1 = σ.1 + 4 → τ.2.1 = σ.2.1 + 211 → Q (.inl none) τ) : mj_wp (tb ar) 66 (mj_en (tb ar) 66 [.ref (A (0, 0)), .ref (A (9, x)), .ref (A (13, x)), .ref (A (30, p))] σ) Q := by
  rw [ent_66]
  have hs5 := hB.2.1
  have hn : x < 2 * s.1 - 1 := by have := hB.1; omega
  have g0 := cs_g (k := 0) (i := 0) h rfl
  have g3 := cs_g (k := 3) (i := 0) h rfl
  have g9 := cs_g (k := 9) (i := x) h (if_pos hn)
  have g10 := cs_g (k := 10) (i := x) h (if_pos hn)
  have g13 := cs_g (k := 13) (i := x) h (if_pos hi)
  have g14 := cs_g (k := 14) (i := x) h (if_pos hi)
  have g30 := cs_g (k := 30) (i := p) h (if_pos hp)
  rw [hv] at g30
  have t1 := cs_set (w := upd (cs_v s 9 x) 2 b) (e0 := _) h (if_pos hn) (k := 9) (i := x) (if_pos hn)
  rw [w_set_at, w_set_ne (by decide), w_set_ne (by decide)] at t1
  have p0 : ∀ e, (mj_up σ (A (9, x)) e).2.2 (A (0, 0)) = σ.2.2 (A (0, 0)) := fun e => up_ne (tg_ne (t := (0, 0)) (u := (9, x)) h rfl (if_pos hn) (by simp))
  have p3 : ∀ e, (mj_up σ (A (9, x)) e).2.2 (A (3, 0)) = σ.2.2 (A (3, 0)) := fun e => up_ne (tg_ne (t := (3, 0)) (u := (9, x)) h rfl (if_pos hn) (by simp))
  have p10 : ∀ e, (mj_up σ (A (9, x)) e).2.2 (A (10, x)) = σ.2.2 (A (10, x)) := fun e => up_ne (tg_ne (t := (10, x)) (u := (9, x)) h (if_pos hn) (if_pos hn) (by simp))
  have p13 : ∀ e, (mj_up σ (A (9, x)) e).2.2 (A (13, x)) = σ.2.2 (A (13, x)) := fun e => up_ne (tg_ne (t := (13, x)) (u := (9, x)) h (if_pos hi) (if_pos hn) (by simp))
  have p14 : ∀ e, (mj_up σ (A (9, x)) e).2.2 (A (14, x)) = σ.2.2 (A (14, x)) := fun e => up_ne (tg_ne (t := (14, x)) (u := (9, x)) h (if_pos hi) (if_pos hn) (by simp))
  have p30 : ∀ e, (mj_up σ (A (9, x)) e).2.2 (A (30, p)) = σ.2.2 (A (30, p)) := fun e => up_ne (tg_ne (t := (30, p)) (u := (9, x)) h (if_pos hp) (if_pos hn) (by simp))
  have z0 : ∀ c, cs_six (nI x) (nI x) c b 0 0 0 = nI x := fun _ => rfl
  have z1 : ∀ c, cs_six (nI x) (nI x) c b 0 0 1 = nI x := fun _ => rfl
  have z3 : ∀ c, cs_six (nI x) (nI x) c b 0 0 3 = b := fun _ => rfl
  have z4 : ∀ c, cs_six (nI x) (nI x) c b 0 0 4 = 0 := fun _ => rfl
  have c0 : ¬ (0 : Int32) < 0 := by decide
  have c1 : (0 : Int32) ≤ 0 := by decide
  simp only [r66_0, r66_1, r66_4, r66_5, r66_8, r66_36, r66_37, r66_38, r66_41, r66_44, r66_45, r66_48, r66_49, r66_50, r66_53, r66_56, r66_58, r66_60, r66_61, r66_64, r66_67, r66_118, r66_119, r66_122, r66_123, r66_126, r66_127, r66_130, r66_131, r66_132, r66_135, r66_136, r66_139, r66_142, r66_143, wo_nx, wo_ret, wo_ite, wo_call, bk_inl, mj_lda, mj_ldi, mj_sti, mj_sta, mj_b2, mj_br1, mj_br2, mj_brn, mj_ir, mj_rr, mj_nx, mj_gf, mj_fld, mj_k2, mj_rc, mj_cls, mj_dup, mj_inc, List.getElem?_cons_zero, List.getElem?_cons_succ, List.length_cons, List.length_nil, List.set_cons_succ, List.set_cons_zero, Nat.reduceAdd, Nat.reduceLT, if_true, if_false, mj_iif, decide_eq_true_eq, List.take_succ_cons, List.take_zero, List.reverse_cons, List.reverse_nil, List.nil_append, List.cons_append, List.drop_succ_cons, List.drop_zero, List.map_cons, List.map_nil, cat_i, cat_r, cat_n, Nat.reduceLeDiff, true_and, and_true, decide_true, Option.toList_some, Option.toList_none, and_self, Nat.le_refl, mj_vr, mj_zr, mj_th, wo_thr, mxl_0, mxl_1, mxl_2, mxl_3, mxl_4, mxl_5, mxl_6, mxl_7, mxl_8, mxl_9, mxl_10, mxl_11, mxl_12, mxl_13, mxl_14, mxl_15, mxl_16, mxl_17, mxl_18, mxl_19, mxl_20, mxl_21, mxl_22, mxl_23, mxl_24, mxl_25, mxl_26, mxl_27, mxl_28, mxl_29, mxl_30, mxl_31, mxl_32, mxl_33, mxl_34, mxl_35, mxl_36, mxl_37, mxl_38, mxl_39, mxl_40, mxl_41, mxl_42, mxl_43, mxl_44, mxl_45, mxl_46, mxl_47, mxl_48, mxl_49, mxl_50, mxl_51, mxl_52, mxl_53, mxl_54, mxl_55, mxl_56, mxl_57, mxl_58, mxl_59, mxl_60, mxl_61, mxl_62, mxl_63, mxl_64, mxl_65, mxl_66, mxl_67, mxl_68, mxl_69, mxl_70, mxl_71, mxl_72, mxl_73, mxl_74, mxl_75, mxl_76, mxl_77, mxl_78, mxl_79, mxl_80, mxl_81, mxl_82, mxl_83, mxl_84, mxl_85, mxl_86, mxl_136, mxl_137, g0, g3, g9, g10, g13, g14, g30, up_eq, p0, p3, p10, p13, p14, p30, z0, z1, z3, z4, h92, h14, h102, mj_mm, c0, c1, mj_pf, mj_sf, mj_fit, Option.isSome_some, Nat.zero_le]
  have hM5 : cs_M (cs_u s 9 x (upd (cs_v s 9 x) 2 b)) 1 := M_of hM rfl rfl (cs_u_ne (by omega)) (cs_u_ne (by omega)) (cs_u_ne (by omega))
  have hk : cs_kq (nI x) (nI x) = 6 := if_pos rfl
  have es := send_new (s := cs_u s 9 x (upd (cs_v s 9 x) 2 b)) (a := nI x) (b' := nI x) (c := 2) (d := b) (e := 0) (f := 0) (hd := hd) (n := 0) (by rw [cs_u_ne (by omega)]; exact h3) (by rw [hk, cs_u_ne (by omega)]; exact h61) hd3 (by rw [hk, cs_u_ne (by omega)]; exact h62) (by omega)
  rw [hk] at es
  have hM6 := M_send (a := nI x) (b := nI x) (c := 2) (d := b) (e := 0) (f := 0) hM5 (by omega)
  rw [es] at hM6
  refine C_send t1 hM5 (fun A1 τ1 hA1 u1 u2 hτ1 => ?_)
  rw [es] at hτ1 u1 u2 ⊢
  dsimp only at hτ1 u1 u2 hM6 ⊢
  have hA1' : ∀ k i, k < 30 ∨ (k = 30 ∧ i < s.2.1) → A1 (k, i) = A (k, i) := fun k i hki => hA1 (k, i) (fun e => by
    have e1 := congrArg Prod.fst e
    have e2 := congrArg Prod.snd e
    dsimp only at e1 e2
    have e3 : (cs_u s 9 x (upd (cs_v s 9 x) 2 b)).2.1 = s.2.1 := rfl
    omega)
  generalize hs6 : cs_push (cs_mk (cs_u s 9 x (upd (cs_v s 9 x) 2 b)) (cs_six (nI x) (nI x) 2 b 0 0)) 6 hd 0 (cs_u s 9 x (upd (cs_v s 9 x) 2 b)).2.1 = s6 at hτ1 u1 u2 hM6
  have k1 : s6.1 = s.1 := by rw [← hs6]; rfl
  have k21 : s6.2.1 = s.2.1 + 1 := by rw [← hs6]; rfl
  have ktd : s6.2.2.1 = fun _ => false := by rw [← hs6]; exact td_mk (s := cs_u s 9 x (upd (cs_v s 9 x) 2 b)) (w := cs_six (nI x) (nI x) 2 b 0 0) htd
  have kv : ∀ k i, k ≠ 6 → k ≠ 9 → k ≠ 30 → cs_v s6 k i = cs_v s k i := fun k i a1 a2 a3 => by
    rw [← hs6, push_vn (by omega), mk_v (by omega), cs_u_ne (by omega)]
  have k61 : cs_v s6 6 0 1 = nI hd := by
    rw [← hs6, push_v, w_set_ne (by decide), mk_v (by omega), cs_u_ne (by omega)]
    exact h61
  have k62 : cs_v s6 6 0 2 = nI 1 := by
    rw [← hs6, push_v, w_set_at]
  have k30 : cs_v s6 30 s.2.1 = cs_six (nI x) (nI x) 2 b 0 0 := by
    rw [← hs6, push_vn (by omega)]
    exact mk_vm (s := cs_u s 9 x (upd (cs_v s 9 x) 2 b))
  have kr : cs_r s6 7 (hd % 300) = some s.2.1 := by
    rw [← hs6]
    have e := push_r (s := cs_mk (cs_u s 9 x (upd (cs_v s 9 x) 2 b)) (cs_six (nI x) (nI x) 2 b 0 0)) (k := 6) (hd := hd) (n := 0) (x := (cs_u s 9 x (upd (cs_v s 9 x) 2 b)).2.1)
    rw [show (6 + 1 : Nat) = 7 from rfl] at e
    rw [e]
    exact if_pos rfl
  have hi6 : x < s6.1 := by rw [k1]; exact hi
  have hn6 : x < 2 * s6.1 - 1 := by rw [k1]; exact hn
  have hM61 : s.2.1 < s6.2.1 := by rw [k21]; omega
  simp only [r66_146, r66_148, r66_150, r66_154, r66_156, wo_nx, wo_ret, wo_ite, wo_call, bk_inl, mj_lda, mj_ldi, mj_sti, mj_sta, mj_b2, mj_br1, mj_br2, mj_brn, mj_ir, mj_rr, mj_nx, mj_gf, mj_fld, mj_k2, mj_rc, mj_cls, mj_dup, mj_inc, List.getElem?_cons_zero, List.getElem?_cons_succ, List.length_cons, List.length_nil, List.set_cons_succ, List.set_cons_zero, Nat.reduceAdd, Nat.reduceLT, if_true, if_false, mj_iif, decide_eq_true_eq, List.take_succ_cons, List.take_zero, List.reverse_cons, List.reverse_nil, List.nil_append, List.cons_append, List.drop_succ_cons, List.drop_zero, List.map_cons, List.map_nil, cat_i, cat_r, cat_n, Nat.reduceLeDiff, true_and, and_true, decide_true, Option.toList_some, Option.toList_none, and_self, Nat.le_refl, mj_vr, mj_zr, mj_th, wo_thr, mxl_0, mxl_1, mxl_2, mxl_3, mxl_4, mxl_5, mxl_6, mxl_7, mxl_8, mxl_9, mxl_10, mxl_11, mxl_12, mxl_13, mxl_14, mxl_15, mxl_16, mxl_17, mxl_18, mxl_19, mxl_20, mxl_21, mxl_22, mxl_23, mxl_24, mxl_25, mxl_26, mxl_27, mxl_28, mxl_29, mxl_30, mxl_31, mxl_32, mxl_33, mxl_34, mxl_35, mxl_36, mxl_37, mxl_38, mxl_39, mxl_40, mxl_41, mxl_42, mxl_43, mxl_44, mxl_45, mxl_46, mxl_47, mxl_48, mxl_49, mxl_50, mxl_51, mxl_52, mxl_53, mxl_54, mxl_55, mxl_56, mxl_57, mxl_58, mxl_59, mxl_60, mxl_61, mxl_62, mxl_63, mxl_64, mxl_65, mxl_66, mxl_67, mxl_68, mxl_69, mxl_70, mxl_71, mxl_72, mxl_73, mxl_74, mxl_75, mxl_76, mxl_77, mxl_78, mxl_79, mxl_80, mxl_81, mxl_82, mxl_83, mxl_84, mxl_85, mxl_86, mxl_136, mxl_137, cs_o]
  have g30' := cs_g (k := 30) (i := s.2.1) hτ1 (if_pos hM61)
  have ec : (cs_u s 9 x (upd (cs_v s 9 x) 2 b)).2.1 = s.2.1 := rfl
  simp only [ec, g30', wo_nx, wo_ret, wo_ite, wo_call, bk_inl, mj_lda, mj_ldi, mj_sti, mj_sta, mj_b2, mj_br1, mj_br2, mj_brn, mj_ir, mj_rr, mj_nx, mj_gf, mj_fld, mj_k2, mj_rc, mj_cls, mj_dup, mj_inc, List.getElem?_cons_zero, List.getElem?_cons_succ, List.length_cons, List.length_nil, List.set_cons_succ, List.set_cons_zero, Nat.reduceAdd, Nat.reduceLT, if_true, if_false, mj_iif, decide_eq_true_eq, List.take_succ_cons, List.take_zero, List.reverse_cons, List.reverse_nil, List.nil_append, List.cons_append, List.drop_succ_cons, List.drop_zero, List.map_cons, List.map_nil, cat_i, cat_r, cat_n, Nat.reduceLeDiff, true_and, and_true, decide_true, Option.toList_some, Option.toList_none, and_self, Nat.le_refl, mj_vr, mj_zr, mj_th, wo_thr, mxl_0, mxl_1, mxl_2, mxl_3, mxl_4, mxl_5, mxl_6, mxl_7, mxl_8, mxl_9, mxl_10, mxl_11, mxl_12, mxl_13, mxl_14, mxl_15, mxl_16, mxl_17, mxl_18, mxl_19, mxl_20, mxl_21, mxl_22, mxl_23, mxl_24, mxl_25, mxl_26, mxl_27, mxl_28, mxl_29, mxl_30, mxl_31, mxl_32, mxl_33, mxl_34, mxl_35, mxl_36, mxl_37, mxl_38, mxl_39, mxl_40, mxl_41, mxl_42, mxl_43, mxl_44, mxl_45, mxl_46, mxl_47, mxl_48, mxl_49, mxl_50, mxl_51, mxl_52, mxl_53, mxl_54, mxl_55, mxl_56, mxl_57, mxl_58, mxl_59, mxl_60, mxl_61, mxl_62, mxl_63, mxl_64, mxl_65, mxl_66, mxl_67, mxl_68, mxl_69, mxl_70, mxl_71, mxl_72, mxl_73, mxl_74, mxl_75, mxl_76, mxl_77, mxl_78, mxl_79, mxl_80, mxl_81, mxl_82, mxl_83, mxl_84, mxl_85, mxl_86, mxl_136, mxl_137]
  refine C_room0 hτ1 hM61 (by rw [ktd]) (fun τ2 v1 v2 hτ2 => ?_)
  generalize hA2 : cs_A3 A1 s.2.1 τ1.1 = A2 at hτ2 ⊢
  have hA2' : ∀ k i, k < 30 ∨ (k = 30 ∧ i < s.2.1) → A2 (k, i) = A (k, i) := fun k i hki => by
    rw [← hA2, A3_lt (by omega)]
    exact hA1' k i hki
  have rv : ∀ k i, k < 31 → cs_v (cs_rm s6 s.2.1) k i = cs_v s6 k i := fun k i hk => if_neg (by omega)
  have rz : ∀ k, 31 ≤ k → k ≤ 33 → cs_v (cs_rm s6 s.2.1) k s.2.1 = fun _ => 0 := fun k a1 a2 => if_pos ⟨a1, a2, rfl⟩
  have R31 : cs_R (cs_rm s6 s.2.1) 31 s.2.1 := Or.inr (Or.inr ⟨rfl, hM61, if_pos rfl⟩)
  have R10 : cs_R (cs_rm s6 s.2.1) 10 x := Or.inl ⟨rfl, hn6⟩
  have g0'' := cs_g (k := 0) (i := 0) hτ2 rfl
  have g9'' := cs_g (k := 9) (i := x) hτ2 (if_pos hn6)
  have g13'' := cs_g (k := 13) (i := x) hτ2 (if_pos hi6)
  have g10'' := cs_g (k := 10) (i := x) hτ2 (if_pos hn6)
  have g31'' := cs_g (k := 31) (i := s.2.1) hτ2 (if_pos ⟨hM61, if_pos rfl⟩)
  rw [hA2' 9 x (by omega)] at g9''
  rw [hA2' 13 x (by omega)] at g13''
  simp only [r66_159, r66_161, r66_163, r66_164, r66_167, wo_nx, wo_ret, wo_ite, wo_call, bk_inl, mj_lda, mj_ldi, mj_sti, mj_sta, mj_b2, mj_br1, mj_br2, mj_brn, mj_ir, mj_rr, mj_nx, mj_gf, mj_fld, mj_k2, mj_rc, mj_cls, mj_dup, mj_inc, List.getElem?_cons_zero, List.getElem?_cons_succ, List.length_cons, List.length_nil, List.set_cons_succ, List.set_cons_zero, Nat.reduceAdd, Nat.reduceLT, if_true, if_false, mj_iif, decide_eq_true_eq, List.take_succ_cons, List.take_zero, List.reverse_cons, List.reverse_nil, List.nil_append, List.cons_append, List.drop_succ_cons, List.drop_zero, List.map_cons, List.map_nil, cat_i, cat_r, cat_n, Nat.reduceLeDiff, true_and, and_true, decide_true, Option.toList_some, Option.toList_none, and_self, Nat.le_refl, mj_vr, mj_zr, mj_th, wo_thr, mxl_0, mxl_1, mxl_2, mxl_3, mxl_4, mxl_5, mxl_6, mxl_7, mxl_8, mxl_9, mxl_10, mxl_11, mxl_12, mxl_13, mxl_14, mxl_15, mxl_16, mxl_17, mxl_18, mxl_19, mxl_20, mxl_21, mxl_22, mxl_23, mxl_24, mxl_25, mxl_26, mxl_27, mxl_28, mxl_29, mxl_30, mxl_31, mxl_32, mxl_33, mxl_34, mxl_35, mxl_36, mxl_37, mxl_38, mxl_39, mxl_40, mxl_41, mxl_42, mxl_43, mxl_44, mxl_45, mxl_46, mxl_47, mxl_48, mxl_49, mxl_50, mxl_51, mxl_52, mxl_53, mxl_54, mxl_55, mxl_56, mxl_57, mxl_58, mxl_59, mxl_60, mxl_61, mxl_62, mxl_63, mxl_64, mxl_65, mxl_66, mxl_67, mxl_68, mxl_69, mxl_70, mxl_71, mxl_72, mxl_73, mxl_74, mxl_75, mxl_76, mxl_77, mxl_78, mxl_79, mxl_80, mxl_81, mxl_82, mxl_83, mxl_84, mxl_85, mxl_86, mxl_136, mxl_137, g9'', g31'']
  refine C_copy (en := 0) (en' := 0) hτ2 R31 R10 (Or.inl (by decide)) ?_ ?_ (by omega) (by omega) (fun τ3 w1 hτ3 => ?_)
  · rw [rz 31 (by omega) (by omega)]
    rfl
  · rw [rv 10 x (by omega), kv 10 x (by decide) (by decide) (by decide)]
    exact h103
  have mx : max 0 0 = 0 := rfl
  rw [mx] at hτ3
  generalize hs8 : cs_cp (cs_rm s6 s.2.1) 31 s.2.1 10 x 0 = s8 at hτ3
  have m1 : s8.1 = s.1 := by rw [← hs8]; exact k1
  have m21 : s8.2.1 = s.2.1 + 1 := by rw [← hs8]; exact k21
  have mtd : s8.2.2.1 s.2.1 = true := by rw [← hs8]; exact if_pos rfl
  have mr : cs_r s8 = cs_r s6 := by rw [← hs8]; rfl
  have mv : ∀ k i, k < 31 → cs_v s8 k i = cs_v s6 k i := fun k i hk => by
    rw [← hs8]
    unfold cs_cp cs_u3
    rw [cs_u_ne (by omega), cs_u_ne (by omega), cs_u_ne (by omega)]
    exact rv k i hk
  have m312 : cs_v s8 31 s.2.1 2 = 0 := by
    rw [← hs8]
    unfold cs_cp cs_u3
    rw [cs_u_eq, w_set_ne (by decide), w_set_at, rv 10 x (by omega), kv 10 x (by decide) (by decide) (by decide)]
    exact h102
  have m313 : cs_v s8 31 s.2.1 3 = nI 0 := by
    rw [← hs8]
    unfold cs_cp cs_u3
    rw [cs_u_eq, w_set_at, rv 10 x (by omega), kv 10 x (by decide) (by decide) (by decide)]
    exact h103
  have hi8 : x < s8.1 := by rw [m1]; exact hi
  have g13r := cs_g (k := 13) (i := x) hτ3 (if_pos hi8)
  rw [hA2' 13 x (by omega)] at g13r
  have g14r := cs_g (k := 14) (i := x) hτ3 (if_pos hi8)
  have h31 : s.2.1 < s8.2.1 ∧ s8.2.2.1 s.2.1 = true := ⟨by rw [m21]; omega, mtd⟩
  simp only [r66_170, r66_171, r66_174, r66_175, r66_178, r66_180, wo_nx, wo_ret, wo_ite, wo_call, bk_inl, mj_lda, mj_ldi, mj_sti, mj_sta, mj_b2, mj_br1, mj_br2, mj_brn, mj_ir, mj_rr, mj_nx, mj_gf, mj_fld, mj_k2, mj_rc, mj_cls, mj_dup, mj_inc, List.getElem?_cons_zero, List.getElem?_cons_succ, List.length_cons, List.length_nil, List.set_cons_succ, List.set_cons_zero, Nat.reduceAdd, Nat.reduceLT, if_true, if_false, mj_iif, decide_eq_true_eq, List.take_succ_cons, List.take_zero, List.reverse_cons, List.reverse_nil, List.nil_append, List.cons_append, List.drop_succ_cons, List.drop_zero, List.map_cons, List.map_nil, cat_i, cat_r, cat_n, Nat.reduceLeDiff, true_and, and_true, decide_true, Option.toList_some, Option.toList_none, and_self, Nat.le_refl, mj_vr, mj_zr, mj_th, wo_thr, mxl_0, mxl_1, mxl_2, mxl_3, mxl_4, mxl_5, mxl_6, mxl_7, mxl_8, mxl_9, mxl_10, mxl_11, mxl_12, mxl_13, mxl_14, mxl_15, mxl_16, mxl_17, mxl_18, mxl_19, mxl_20, mxl_21, mxl_22, mxl_23, mxl_24, mxl_25, mxl_26, mxl_27, mxl_28, mxl_29, mxl_30, mxl_31, mxl_32, mxl_33, mxl_34, mxl_35, mxl_36, mxl_37, mxl_38, mxl_39, mxl_40, mxl_41, mxl_42, mxl_43, mxl_44, mxl_45, mxl_46, mxl_47, mxl_48, mxl_49, mxl_50, mxl_51, mxl_52, mxl_53, mxl_54, mxl_55, mxl_56, mxl_57, mxl_58, mxl_59, mxl_60, mxl_61, mxl_62, mxl_63, mxl_64, mxl_65, mxl_66, mxl_67, mxl_68, mxl_69, mxl_70, mxl_71, mxl_72, mxl_73, mxl_74, mxl_75, mxl_76, mxl_77, mxl_78, mxl_79, mxl_80, mxl_81, mxl_82, mxl_83, mxl_84, mxl_85, mxl_86, mxl_136, mxl_137, g13r, g14r]
  refine C_lay (en := 0) hτ3 hi8 (Or.inr (Or.inr ⟨rfl, h31.1, h31.2⟩)) ?_ (by omega) (fun τ4 w2 hτ4 => ?_)
  · rw [mv 14 x (by omega), kv 14 x (by decide) (by decide) (by decide)]
    exact h14
  simp only [r66_183, wo_nx, wo_ret, wo_ite, wo_call, bk_inl, mj_lda, mj_ldi, mj_sti, mj_sta, mj_b2, mj_br1, mj_br2, mj_brn, mj_ir, mj_rr, mj_nx, mj_gf, mj_fld, mj_k2, mj_rc, mj_cls, mj_dup, mj_inc, List.getElem?_cons_zero, List.getElem?_cons_succ, List.length_cons, List.length_nil, List.set_cons_succ, List.set_cons_zero, Nat.reduceAdd, Nat.reduceLT, if_true, if_false, mj_iif, decide_eq_true_eq, List.take_succ_cons, List.take_zero, List.reverse_cons, List.reverse_nil, List.nil_append, List.cons_append, List.drop_succ_cons, List.drop_zero, List.map_cons, List.map_nil, cat_i, cat_r, cat_n, Nat.reduceLeDiff, true_and, and_true, decide_true, Option.toList_some, Option.toList_none, and_self, Nat.le_refl, mj_vr, mj_zr, mj_th, wo_thr, mxl_0, mxl_1, mxl_2, mxl_3, mxl_4, mxl_5, mxl_6, mxl_7, mxl_8, mxl_9, mxl_10, mxl_11, mxl_12, mxl_13, mxl_14, mxl_15, mxl_16, mxl_17, mxl_18, mxl_19, mxl_20, mxl_21, mxl_22, mxl_23, mxl_24, mxl_25, mxl_26, mxl_27, mxl_28, mxl_29, mxl_30, mxl_31, mxl_32, mxl_33, mxl_34, mxl_35, mxl_36, mxl_37, mxl_38, mxl_39, mxl_40, mxl_41, mxl_42, mxl_43, mxl_44, mxl_45, mxl_46, mxl_47, mxl_48, mxl_49, mxl_50, mxl_51, mxl_52, mxl_53, mxl_54, mxl_55, mxl_56, mxl_57, mxl_58, mxl_59, mxl_60, mxl_61, mxl_62, mxl_63, mxl_64, mxl_65, mxl_66, mxl_67, mxl_68, mxl_69, mxl_70, mxl_71, mxl_72, mxl_73, mxl_74, mxl_75, mxl_76, mxl_77, mxl_78, mxl_79, mxl_80, mxl_81, mxl_82, mxl_83, mxl_84, mxl_85, mxl_86, mxl_136, mxl_137]
  have e4 : cs_lay s8 x 31 s.2.1 0 = s8 := rfl
  rw [e4] at hτ4
  refine hQ A2 τ4 s8 ⟨m1, m21, ?_, ?_, ?_, ?_, ?_, ?_, mtd, m312, m313, fun k i a1 a2 a3 a4 a5 a6 a7 => ?_⟩ hA2' hτ4 ?_ ?_
  · exact M_of hM6 (by rw [m21, k21]) mr (mv 3 0 (by omega)) (mv 4 0 (by omega)) (mv 6 0 (by omega))
  · rw [mv 3 0 (by omega), kv 3 0 (by decide) (by decide) (by decide)]
    exact h3
  · rw [mv 6 0 (by omega)]
    exact k61
  · rw [mv 6 0 (by omega)]
    exact k62
  · rw [mr]
    exact kr
  · rw [mv 30 s.2.1 (by omega)]
    exact k30
  · by_cases hk31 : k < 31
    · rw [mv k i hk31]
      exact kv k i a2 a3 a4
    · rw [← hs8]
      unfold cs_cp cs_u3
      rw [cs_u_ne (by omega), cs_u_ne (by omega), cs_u_ne (by omega)]
      show cs_v (cs_rm s6 s.2.1) k i = _
      have e5 : cs_v (cs_rm s6 s.2.1) k i = cs_v s6 k i := if_neg (by omega)
      rw [e5]
      exact kv k i a2 a3 a4
  · have f1 : τ1.1 + s.2.1 = σ.1 + (s.2.1 + 1) := by rw [← k21]; exact u1
    have f3 := w1.1
    have f4 := w2.1
    omega
  · have f2 : τ1.2.1 + 7 * s.2.1 = σ.2.1 + 7 * (s.2.1 + 1) := by rw [← k21]; exact u2
    have f3 := w1.2
    have f4 := w2.2
    omega
end CW
