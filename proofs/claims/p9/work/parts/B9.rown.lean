/-! the reference's finish: a message to itself is taken, and given back -/
section RF9
variable {ar : Nat → ClassId} {B z q : Nat} {s s' u : rs_S} {σ : mj_S} {Q : (Option Value ⊕ String) → mj_S → Prop} {W O hd : List Nat} {m n x y p t K : Nat}
theorem pop_perm : List.Perm (W ++ O ++ p :: hd) (W ++ (p :: O) ++ hd) := by
  have h1 : List.Perm (W ++ O ++ p :: hd) (p :: (W ++ O ++ hd)) := List.perm_middle
  have h2 : List.Perm (W ++ (p :: O) ++ hd) (p :: (W ++ O ++ hd)) := by
    rw [List.append_assoc, List.append_assoc]
    exact List.perm_middle
  exact h1.trans h2.symm
theorem P_pop (P : rs_P s n W (p :: O) hd) : rs_P (rs_u (rs_w s 30 (nI O.length)) 27 (rs_to (s.2 27) 0 O.length)) n W O (p :: hd) := by
  obtain ⟨⟨p1, p2, p3, p4⟩, pw, po, pn, pm, pu, pa, pb⟩ := P
  refine ⟨⟨p1, p2, rfl, ?_⟩, pw, fun i x hx => ?_, pop_perm.nodup_iff.mpr pn, fun x hx => pm x (pop_perm.mem_iff.mp hx), fun x a b => pop_perm.mem_iff.mpr (pu x a b), pa, fun x hx => pb x (List.mem_cons_of_mem _ hx)⟩
  · have : (p :: O).length = O.length + 1 := rfl
    omega
  · have hi : i < O.length := (List.getElem?_eq_some_iff.mp hx).1
    show (if 0 ≤ i ∧ i < O.length then s.2 27 (i + 1) else s.2 27 i) = nI x
    rw [if_pos ⟨Nat.zero_le _, hi⟩]
    exact po (i + 1) x hx
theorem P_free (P : rs_P s n W O (p :: hd)) : rs_P (rs_u s 28 (upd (s.2 28) p 0)) n W O hd := by
  obtain ⟨⟨p1, p2, p3, p4⟩, pw, po, pn, pm, pu, pa, pb⟩ := P
  have hpm : List.Perm (W ++ O ++ p :: hd) (p :: (W ++ O ++ hd)) := List.perm_middle
  obtain ⟨hnp, hnd⟩ := List.nodup_cons.mp (hpm.nodup_iff.mp pn)
  have hin : ∀ x, x ∈ W ++ O ++ hd → x ∈ W ++ O ++ p :: hd := fun x hx => hpm.mem_iff.mpr (List.mem_cons_of_mem _ hx)
  have hne : ∀ x, x ∈ W ++ O ++ hd → ¬ x = p := fun x hx e => hnp (e ▸ hx)
  refine ⟨⟨p1, p2, p3, p4⟩, pw, po, hnd, fun x hx => ?_, fun x a b => ?_, pa, pb⟩
  · obtain ⟨q1, q2, q3⟩ := pm x (hin x hx)
    refine ⟨q1, ?_, q3⟩
    show ¬ upd (s.2 28) p 0 x = 0
    rw [upd_ne (hne x hx)]
    exact q2
  · have b' : ¬ upd (s.2 28) p 0 x = 0 := b
    by_cases e : x = p
    · rw [e, upd_at] at b'
      exact absurd rfl b'
    · rw [upd_ne e] at b'
      rcases List.mem_cons.mp (hpm.mem_iff.mp (pu x a b')) with h | h
      · exact absurd h e
      · exact h
theorem R_ow_lp {o : Nat} {l1 l2 l3 : Option Value} (ho : o < 110) (hs : s.1 30 = nI o) : ∀ (j k : Nat), k + j = o → (mj_wp (tb ar) 107 (33, [some (.ref B), l1, l2, l3, some (.int (nI k))], [], rs_st ar B z q (rs_u s 27 (rs_to (s.2 27) 0 k))) Q ↔ mj_wp (tb ar) 107 (64, [some (.ref B), l1, l2, l3, some (.int (nI o))], [], rs_st ar B z q (rs_u s 27 (rs_to (s.2 27) 0 o))) Q)
  | 0, k, h => by
    have h' : k = o := by omega
    subst h'
    have c1 : nI k ≤ nI k := nI_le (Nat.le_refl _) (by omega)
    simp only [r107_33, r107_35, r107_36, r107_39, wo_nx, wo_ret, wo_ite, wo_call, bk_inl, mj_lda, mj_ldi, mj_sti, mj_sta, mj_b2, mj_br1, mj_br2, mj_brn, mj_ir, mj_rr, mj_nx, mj_gf, mj_k2, mj_rc, mj_dup, mj_inc, List.getElem?_cons_zero, List.getElem?_cons_succ, List.length_cons, List.length_nil, List.set_cons_succ, List.set_cons_zero, Nat.reduceAdd, Nat.reduceLT, if_true, if_false, mj_iif, decide_eq_true_eq, List.take_succ_cons, List.take_zero, List.reverse_cons, List.reverse_nil, List.nil_append, List.cons_append, List.drop_succ_cons, List.drop_zero, List.map_cons, List.map_nil, cat_i, cat_r, cat_n, Nat.reduceLeDiff, true_and, and_true, decide_true, Option.toList_some, Option.toList_none, and_self, Nat.le_refl, mj_il, mj_is, mj_zs, mj_pf, mj_fit, mj_vr, mj_zr, mj_dup2, mj_pop, Option.isSome_some, rs_cls, rs_u1, rs_u2, rs_w1, rs_w2, Nat.reduceEqDiff, reduceIte, rs_f0, rs_f1, rs_f2, rs_f3, rs_f4, rs_f5, rs_f6, rs_f7, rs_f8, rs_f9, rs_f10, rs_f11, rs_f12, rs_f13, rs_f14, rs_f15, rs_f16, rs_f17, rs_f18, rs_f19, rs_f20, rs_f21, rs_f22, rs_f23, rs_f24, rs_f25, rs_f26, rs_f27, rs_f28, rs_f29, rs_f30, rs_f31, rs_f32, rs_f33, rs_f34, rs_f35, rs_f36, rs_f37, rs_f38, rs_f39, rs_f40, rs_f41, rs_i1, rs_a1, rs_i2, rs_a2, rs_i3, rs_a3, rs_i4, rs_a4, rs_i5, rs_a5, rs_i6, rs_a6, rs_i7, rs_a7, rs_i8, rs_a8, rs_i9, rs_a9, rs_i10, rs_a10, rs_i11, rs_a11, rs_i12, rs_a12, rs_i13, rs_a13, rs_i14, rs_a14, rs_i15, rs_a15, rs_i16, rs_a16, rs_i17, rs_a17, rs_i18, rs_a18, rs_i19, rs_a19, rs_i20, rs_a20, rs_i21, rs_a21, rs_i22, rs_a22, rs_i23, rs_a23, rs_i24, rs_a24, rs_i25, rs_a25, rs_i26, rs_a26, rs_i27, rs_a27, rs_i28, rs_a28, rs_i29, rs_a29, rs_i30, rs_a30, rs_i31, rs_a31, rs_i32, rs_a32, rs_i33, rs_a33, rs_i34, rs_a34, rs_i35, rs_a35, rs_i36, rs_a36, rs_w_0, rs_w_1, rs_w_2, rs_w_28, rs_w_30, rs_w_41, mxl_87, mxl_88, mxl_89, mxl_90, mxl_91, mxl_92, mxl_93, mxl_94, mxl_95, mxl_96, mxl_97, mxl_98, mxl_99, mxl_100, mxl_101, mxl_102, mxl_103, mxl_104, mxl_105, mxl_106, mxl_107, mxl_108, mxl_109, mxl_110, mxl_111, mxl_112, mxl_113, mxl_114, mxl_115, mxl_116, mxl_117, mxl_118, mxl_119, mxl_120, mxl_121, mxl_122, mxl_123, mxl_124, mxl_125, mxl_126, mxl_127, mxl_128, mxl_129, mxl_130, mxl_131, mxl_132, mxl_133, mxl_134, mxl_135, mxl_136, mxl_137, hs, c1]
  | j + 1, k, h => by
    have c1 : ¬ nI o ≤ nI k := nI_ge (by omega) (by omega)
    have hix : mj_ix (nI k) 110 = true := ix_of (by omega) (by decide)
    have hcl : (nI k).toNatClampNeg = k := nI_clamp (by omega)
    have hix2 : mj_ix (nI (k + 1)) 110 = true := ix_of (by omega) (by decide)
    have hcl2 : (nI (k + 1)).toNatClampNeg = k + 1 := nI_clamp (by omega)
    have ih := R_ow_lp (l1 := l1) (l2 := l2) (l3 := l3) ho hs j (k + 1) (by omega)
    refine Iff.trans ?_ ih
    rw [r107_33]
    simp only [r107_35, r107_36, r107_39, r107_42, r107_43, r107_46, r107_48, r107_49, r107_52, r107_54, r107_55, r107_56, r107_57, r107_58, r107_61, wo_nx, wo_ret, wo_ite, wo_call, bk_inl, mj_lda, mj_ldi, mj_sti, mj_sta, mj_b2, mj_br1, mj_br2, mj_brn, mj_ir, mj_rr, mj_nx, mj_gf, mj_k2, mj_rc, mj_dup, mj_inc, List.getElem?_cons_zero, List.getElem?_cons_succ, List.length_cons, List.length_nil, List.set_cons_succ, List.set_cons_zero, Nat.reduceAdd, Nat.reduceLT, if_true, if_false, mj_iif, decide_eq_true_eq, List.take_succ_cons, List.take_zero, List.reverse_cons, List.reverse_nil, List.nil_append, List.cons_append, List.drop_succ_cons, List.drop_zero, List.map_cons, List.map_nil, cat_i, cat_r, cat_n, Nat.reduceLeDiff, true_and, and_true, decide_true, Option.toList_some, Option.toList_none, and_self, Nat.le_refl, mj_il, mj_is, mj_zs, mj_pf, mj_fit, mj_vr, mj_zr, mj_dup2, mj_pop, Option.isSome_some, rs_cls, rs_u1, rs_u2, rs_w1, rs_w2, Nat.reduceEqDiff, reduceIte, rs_f0, rs_f1, rs_f2, rs_f3, rs_f4, rs_f5, rs_f6, rs_f7, rs_f8, rs_f9, rs_f10, rs_f11, rs_f12, rs_f13, rs_f14, rs_f15, rs_f16, rs_f17, rs_f18, rs_f19, rs_f20, rs_f21, rs_f22, rs_f23, rs_f24, rs_f25, rs_f26, rs_f27, rs_f28, rs_f29, rs_f30, rs_f31, rs_f32, rs_f33, rs_f34, rs_f35, rs_f36, rs_f37, rs_f38, rs_f39, rs_f40, rs_f41, rs_i1, rs_a1, rs_i2, rs_a2, rs_i3, rs_a3, rs_i4, rs_a4, rs_i5, rs_a5, rs_i6, rs_a6, rs_i7, rs_a7, rs_i8, rs_a8, rs_i9, rs_a9, rs_i10, rs_a10, rs_i11, rs_a11, rs_i12, rs_a12, rs_i13, rs_a13, rs_i14, rs_a14, rs_i15, rs_a15, rs_i16, rs_a16, rs_i17, rs_a17, rs_i18, rs_a18, rs_i19, rs_a19, rs_i20, rs_a20, rs_i21, rs_a21, rs_i22, rs_a22, rs_i23, rs_a23, rs_i24, rs_a24, rs_i25, rs_a25, rs_i26, rs_a26, rs_i27, rs_a27, rs_i28, rs_a28, rs_i29, rs_a29, rs_i30, rs_a30, rs_i31, rs_a31, rs_i32, rs_a32, rs_i33, rs_a33, rs_i34, rs_a34, rs_i35, rs_a35, rs_i36, rs_a36, rs_w_0, rs_w_1, rs_w_2, rs_w_28, rs_w_30, rs_w_41, mxl_87, mxl_88, mxl_89, mxl_90, mxl_91, mxl_92, mxl_93, mxl_94, mxl_95, mxl_96, mxl_97, mxl_98, mxl_99, mxl_100, mxl_101, mxl_102, mxl_103, mxl_104, mxl_105, mxl_106, mxl_107, mxl_108, mxl_109, mxl_110, mxl_111, mxl_112, mxl_113, mxl_114, mxl_115, mxl_116, mxl_117, mxl_118, mxl_119, mxl_120, mxl_121, mxl_122, mxl_123, mxl_124, mxl_125, mxl_126, mxl_127, mxl_128, mxl_129, mxl_130, mxl_131, mxl_132, mxl_133, mxl_134, mxl_135, mxl_136, mxl_137, hs, c1, hix, hcl, nI_1, hix2, hcl2, to_at, rs_uu, to_s (Nat.zero_le k)]
/-- from the inner loop's head to the message's handling -/
theorem R_own_take {l1 l2 l3 l4 : Option Value} (P : rs_P s n W (p :: O) hd) (hQ : mj_wp (tb ar) 107 (64, [some (.ref B), l1, l2, some (.int (nI p)), some (.int (nI O.length))], [], rs_st ar B z q (rs_u (rs_w s 30 (nI O.length)) 27 (rs_to (s.2 27) 0 O.length))) Q) : mj_wp (tb ar) 107 (6, [some (.ref B), l1, l2, l3, l4], [], rs_st ar B z q s) Q := by
  have h30 : s.1 30 = nI (O.length + 1) := P.1.2.2.1
  have hl : O.length + 1 ≤ 110 := P.1.2.2.2
  have h27 : s.2 27 0 = nI p := P.2.2.1 0 p rfl
  have c1 : ¬ nI (O.length + 1) ≤ 0 := by
    rw [← nI_0]
    exact nI_ge (by omega) (by omega)
  have e : nI (O.length + 1) - 1 = nI O.length := by rw [← nI_1, Int32.add_sub_cancel]
  have hix0 : mj_ix (0 : Int32) 110 = true := by decide
  have hcl0 : (0 : Int32).toNatClampNeg = 0 := by decide
  have hlp := R_ow_lp (ar := ar) (B := B) (z := z) (q := q) (Q := Q) (s := rs_w s 30 (nI O.length)) (l1 := l1) (l2 := l2) (l3 := some (.int (nI p))) (o := O.length) (by omega) rfl O.length 0 (by omega)
  have e2 : rs_u (rs_w s 30 (nI O.length)) 27 (rs_to ((rs_w s 30 (nI O.length)).2 27) 0 0) = rs_w s 30 (nI O.length) := by
    have e3 : rs_to ((rs_w s 30 (nI O.length)).2 27) 0 0 = (rs_w s 30 (nI O.length)).2 27 := by
      funext j
      exact if_neg (by omega)
    rw [e3, rs_us]
  rw [e2, nI_0] at hlp
  simp only [r107_6, r107_7, r107_10, r107_13, r107_14, r107_17, r107_18, r107_19, r107_20, r107_21, r107_22, r107_25, r107_26, r107_27, r107_30, r107_31, wo_nx, wo_ret, wo_ite, wo_call, bk_inl, mj_lda, mj_ldi, mj_sti, mj_sta, mj_b2, mj_br1, mj_br2, mj_brn, mj_ir, mj_rr, mj_nx, mj_gf, mj_k2, mj_rc, mj_dup, mj_inc, List.getElem?_cons_zero, List.getElem?_cons_succ, List.length_cons, List.length_nil, List.set_cons_succ, List.set_cons_zero, Nat.reduceAdd, Nat.reduceLT, if_true, if_false, mj_iif, decide_eq_true_eq, List.take_succ_cons, List.take_zero, List.reverse_cons, List.reverse_nil, List.nil_append, List.cons_append, List.drop_succ_cons, List.drop_zero, List.map_cons, List.map_nil, cat_i, cat_r, cat_n, Nat.reduceLeDiff, true_and, and_true, decide_true, Option.toList_some, Option.toList_none, and_self, Nat.le_refl, mj_il, mj_is, mj_zs, mj_pf, mj_fit, mj_vr, mj_zr, mj_dup2, mj_pop, Option.isSome_some, rs_cls, rs_u1, rs_u2, rs_w1, rs_w2, Nat.reduceEqDiff, reduceIte, rs_f0, rs_f1, rs_f2, rs_f3, rs_f4, rs_f5, rs_f6, rs_f7, rs_f8, rs_f9, rs_f10, rs_f11, rs_f12, rs_f13, rs_f14, rs_f15, rs_f16, rs_f17, rs_f18, rs_f19, rs_f20, rs_f21, rs_f22, rs_f23, rs_f24, rs_f25, rs_f26, rs_f27, rs_f28, rs_f29, rs_f30, rs_f31, rs_f32, rs_f33, rs_f34, rs_f35, rs_f36, rs_f37, rs_f38, rs_f39, rs_f40, rs_f41, rs_i1, rs_a1, rs_i2, rs_a2, rs_i3, rs_a3, rs_i4, rs_a4, rs_i5, rs_a5, rs_i6, rs_a6, rs_i7, rs_a7, rs_i8, rs_a8, rs_i9, rs_a9, rs_i10, rs_a10, rs_i11, rs_a11, rs_i12, rs_a12, rs_i13, rs_a13, rs_i14, rs_a14, rs_i15, rs_a15, rs_i16, rs_a16, rs_i17, rs_a17, rs_i18, rs_a18, rs_i19, rs_a19, rs_i20, rs_a20, rs_i21, rs_a21, rs_i22, rs_a22, rs_i23, rs_a23, rs_i24, rs_a24, rs_i25, rs_a25, rs_i26, rs_a26, rs_i27, rs_a27, rs_i28, rs_a28, rs_i29, rs_a29, rs_i30, rs_a30, rs_i31, rs_a31, rs_i32, rs_a32, rs_i33, rs_a33, rs_i34, rs_a34, rs_i35, rs_a35, rs_i36, rs_a36, rs_w_0, rs_w_1, rs_w_2, rs_w_28, rs_w_30, rs_w_41, mxl_87, mxl_88, mxl_89, mxl_90, mxl_91, mxl_92, mxl_93, mxl_94, mxl_95, mxl_96, mxl_97, mxl_98, mxl_99, mxl_100, mxl_101, mxl_102, mxl_103, mxl_104, mxl_105, mxl_106, mxl_107, mxl_108, mxl_109, mxl_110, mxl_111, mxl_112, mxl_113, mxl_114, mxl_115, mxl_116, mxl_117, mxl_118, mxl_119, mxl_120, mxl_121, mxl_122, mxl_123, mxl_124, mxl_125, mxl_126, mxl_127, mxl_128, mxl_129, mxl_130, mxl_131, mxl_132, mxl_133, mxl_134, mxl_135, mxl_136, mxl_137, h30, c1, h27, hix0, hcl0, e]
  exact hlp.mpr hQ
end RF9
