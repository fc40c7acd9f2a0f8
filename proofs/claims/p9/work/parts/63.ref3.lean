section RF
variable {ar : Nat → ClassId} {B z q : Nat} {s : rs_S} {σ : mj_S} {Q : (Option Value ⊕ String) → mj_S → Prop}
theorem rs_ext {s t : rs_S} (h1 : s.1 = t.1) (h2 : ∀ u, s.2 u = t.2 u) : s = t := by
  obtain ⟨a, b⟩ := s
  obtain ⟨c, d⟩ := t
  have h3 : b = d := funext h2
  dsimp only at h1
  rw [h1, h3]
/-- places lo .. lo + n - 1 are 0 -/
def w_fr (f : Nat → Int32) (lo n : Nat) : Nat → Int32 := fun j => if lo ≤ j ∧ j < lo + n then 0 else f j
theorem fr_0 {f : Nat → Int32} {lo : Nat} : w_fr f lo 0 = f := by funext j; exact if_neg (by omega)
theorem fr_s {f : Nat → Int32} {lo k : Nat} : upd (w_fr f lo k) (lo + k) 0 = w_fr f lo (k + 1) := by
  funext j
  unfold upd w_fr
  by_cases hj : j = lo + k
  · subst hj
    rw [if_pos rfl, if_pos (by omega)]
  · rw [if_neg hj]
    by_cases h2 : lo ≤ j ∧ j < lo + k
    · rw [if_pos h2, if_pos (by omega)]
    · rw [if_neg h2, if_neg (by omega)]
theorem nIm (a b : Nat) : nI a * nI b = nI (a * b) := (Int32.ofNat_mul a b).symm
theorem I_100 {x k : Nat} : (100 : Int32) * nI x + nI k = nI (100 * x + k) := by
  have e : (100 : Int32) = nI 100 := rfl
  rw [e, nIm, nI_add]
theorem I_9 {x k : Nat} : (9 : Int32) * nI x + nI k = nI (9 * x + k) := by
  have e : (9 : Int32) = nI 9 := rfl
  rw [e, nIm, nI_add]
def rs_fg (s : rs_S) (x k : Nat) : rs_S := rs_u (rs_u (rs_u s 19 (w_fr (s.2 19) (100 * x) k)) 21 (w_fr (s.2 21) (100 * x) k)) 22 (w_fr (s.2 22) (100 * x) k)
theorem rs_fg_0 {x : Nat} : rs_fg s x 0 = s := by
  unfold rs_fg
  rw [fr_0, fr_0, fr_0]
  refine rs_ext rfl (fun u => ?_)
  simp only [rs_u2]
  by_cases h1 : u = 22
  · rw [if_pos h1, h1]
  · rw [if_neg h1]
    by_cases h2 : u = 21
    · rw [if_pos h2, h2]
    · rw [if_neg h2]
      by_cases h3 : u = 19
      · rw [if_pos h3, h3]
      · rw [if_neg h3]
theorem rs_fg_s {x k : Nat} : rs_u (rs_u (rs_u (rs_fg s x k) 19 (upd ((rs_fg s x k).2 19) (100 * x + k) 0)) 21 (upd ((rs_fg s x k).2 21) (100 * x + k) 0)) 22 (upd ((rs_fg s x k).2 22) (100 * x + k) 0) = rs_fg s x (k + 1) := by
  have e1 : (rs_fg s x k).2 19 = w_fr (s.2 19) (100 * x) k := rfl
  have e2 : (rs_fg s x k).2 21 = w_fr (s.2 21) (100 * x) k := rfl
  have e3 : (rs_fg s x k).2 22 = w_fr (s.2 22) (100 * x) k := rfl
  rw [e1, e2, e3, fr_s, fr_s, fr_s]
  unfold rs_fg
  refine rs_ext rfl (fun u => ?_)
  simp only [rs_u2]
  by_cases h1 : u = 22
  · subst h1; rfl
  · by_cases h2 : u = 21
    · subst h2; rfl
    · by_cases h3 : u = 19
      · subst h3; rfl
      · simp only [h1, h2, h3, if_false]
theorem R_fg_loop {x : Nat} (hx : x < 5) : ∀ (j k : Nat), k + j = 100 →
    (mj_wp (tb ar) 94 (44, [some (.ref B), some (.int (nI x)), some (.int (nI k))], [], rs_st ar B z q (rs_fg s x k)) Q ↔ mj_wp (tb ar) 94 (92, [some (.ref B), some (.int (nI x)), some (.int (nI 100))], [], rs_st ar B z q (rs_fg s x 100)) Q)
  | 0, k, h => by
    have h' : k = 100 := by omega
    subst h'
    have c1 : (100 : Int32) ≤ nI 100 := by decide
    simp only [r94_44, r94_45, r94_47, wo_nx, wo_ret, wo_ite, wo_call, bk_inl, mj_lda, mj_ldi, mj_sti, mj_sta, mj_b2, mj_br1, mj_br2, mj_brn, mj_ir, mj_rr, mj_nx, mj_gf, mj_k2, mj_rc, mj_dup, mj_inc, List.getElem?_cons_zero, List.getElem?_cons_succ, List.length_cons, List.length_nil, List.set_cons_succ, List.set_cons_zero, Nat.reduceAdd, Nat.reduceLT, if_true, if_false, mj_iif, decide_eq_true_eq, List.take_succ_cons, List.take_zero, List.reverse_cons, List.reverse_nil, List.nil_append, List.cons_append, List.drop_succ_cons, List.drop_zero, List.map_cons, List.map_nil, cat_i, cat_r, cat_n, Nat.reduceLeDiff, true_and, and_true, decide_true, Option.toList_some, Option.toList_none, and_self, Nat.le_refl, mj_il, mj_is, mj_zs, mj_pf, mj_fit, mj_vr, mj_zr, mj_dup2, mj_pop, Option.isSome_some, rs_cls, rs_u1, rs_u2, rs_w1, rs_w2, Nat.reduceEqDiff, reduceIte, rs_f0, rs_f1, rs_f2, rs_f3, rs_f4, rs_f5, rs_f6, rs_f7, rs_f8, rs_f9, rs_f10, rs_f11, rs_f12, rs_f13, rs_f14, rs_f15, rs_f16, rs_f17, rs_f18, rs_f19, rs_f20, rs_f21, rs_f22, rs_f23, rs_f24, rs_f25, rs_f26, rs_f27, rs_f28, rs_f29, rs_f30, rs_f31, rs_f32, rs_f33, rs_f34, rs_f35, rs_f36, rs_f37, rs_f38, rs_f39, rs_f40, rs_f41, rs_i1, rs_a1, rs_i2, rs_a2, rs_i3, rs_a3, rs_i4, rs_a4, rs_i5, rs_a5, rs_i6, rs_a6, rs_i7, rs_a7, rs_i8, rs_a8, rs_i9, rs_a9, rs_i10, rs_a10, rs_i11, rs_a11, rs_i12, rs_a12, rs_i13, rs_a13, rs_i14, rs_a14, rs_i15, rs_a15, rs_i16, rs_a16, rs_i17, rs_a17, rs_i18, rs_a18, rs_i19, rs_a19, rs_i20, rs_a20, rs_i21, rs_a21, rs_i22, rs_a22, rs_i23, rs_a23, rs_i24, rs_a24, rs_i25, rs_a25, rs_i26, rs_a26, rs_i27, rs_a27, rs_i28, rs_a28, rs_i29, rs_a29, rs_i30, rs_a30, rs_i31, rs_a31, rs_i32, rs_a32, rs_i33, rs_a33, rs_i34, rs_a34, rs_i35, rs_a35, rs_i36, rs_a36, rs_w_0, rs_w_1, rs_w_2, rs_w_28, rs_w_30, rs_w_41, mxl_87, mxl_88, mxl_89, mxl_90, mxl_91, mxl_92, mxl_93, mxl_94, mxl_95, mxl_96, mxl_97, mxl_98, mxl_99, mxl_100, mxl_101, mxl_102, mxl_103, mxl_104, mxl_105, mxl_106, mxl_107, mxl_108, mxl_109, mxl_110, mxl_111, mxl_112, mxl_113, mxl_114, mxl_115, mxl_116, mxl_117, mxl_118, mxl_119, mxl_120, mxl_121, mxl_122, mxl_123, mxl_124, mxl_125, mxl_126, mxl_127, mxl_128, mxl_129, mxl_130, mxl_131, mxl_132, mxl_133, mxl_134, mxl_135, mxl_136, mxl_137, c1]
  | j + 1, k, h => by
    have c1 : ¬ (100 : Int32) ≤ nI k := by rw [← nI_100]; exact nI_ge (by omega) (by decide)
    have ih := R_fg_loop hx j (k + 1) (by omega)
    have hix : mj_ix (nI (100 * x + k)) 500 = true := ix_of (by omega) (by decide)
    have hcl : (nI (100 * x + k)).toNatClampNeg = 100 * x + k := nI_clamp (by omega)
    refine Iff.trans ?_ ih
    rw [r94_44]
    simp only [r94_45, r94_47, r94_50, r94_51, r94_54, r94_56, r94_57, r94_58, r94_59, r94_60, r94_61, r94_62, r94_63, r94_66, r94_68, r94_69, r94_70, r94_71, r94_72, r94_73, r94_74, r94_75, r94_78, r94_80, r94_81, r94_82, r94_83, r94_84, r94_85, r94_86, r94_89, wo_nx, wo_ret, wo_ite, wo_call, bk_inl, mj_lda, mj_ldi, mj_sti, mj_sta, mj_b2, mj_br1, mj_br2, mj_brn, mj_ir, mj_rr, mj_nx, mj_gf, mj_k2, mj_rc, mj_dup, mj_inc, List.getElem?_cons_zero, List.getElem?_cons_succ, List.length_cons, List.length_nil, List.set_cons_succ, List.set_cons_zero, Nat.reduceAdd, Nat.reduceLT, if_true, if_false, mj_iif, decide_eq_true_eq, List.take_succ_cons, List.take_zero, List.reverse_cons, List.reverse_nil, List.nil_append, List.cons_append, List.drop_succ_cons, List.drop_zero, List.map_cons, List.map_nil, cat_i, cat_r, cat_n, Nat.reduceLeDiff, true_and, and_true, decide_true, Option.toList_some, Option.toList_none, and_self, Nat.le_refl, mj_il, mj_is, mj_zs, mj_pf, mj_fit, mj_vr, mj_zr, mj_dup2, mj_pop, Option.isSome_some, rs_cls, rs_u1, rs_u2, rs_w1, rs_w2, Nat.reduceEqDiff, reduceIte, rs_f0, rs_f1, rs_f2, rs_f3, rs_f4, rs_f5, rs_f6, rs_f7, rs_f8, rs_f9, rs_f10, rs_f11, rs_f12, rs_f13, rs_f14, rs_f15, rs_f16, rs_f17, rs_f18, rs_f19, rs_f20, rs_f21, rs_f22, rs_f23, rs_f24, rs_f25, rs_f26, rs_f27, rs_f28, rs_f29, rs_f30, rs_f31, rs_f32, rs_f33, rs_f34, rs_f35, rs_f36, rs_f37, rs_f38, rs_f39, rs_f40, rs_f41, rs_i1, rs_a1, rs_i2, rs_a2, rs_i3, rs_a3, rs_i4, rs_a4, rs_i5, rs_a5, rs_i6, rs_a6, rs_i7, rs_a7, rs_i8, rs_a8, rs_i9, rs_a9, rs_i10, rs_a10, rs_i11, rs_a11, rs_i12, rs_a12, rs_i13, rs_a13, rs_i14, rs_a14, rs_i15, rs_a15, rs_i16, rs_a16, rs_i17, rs_a17, rs_i18, rs_a18, rs_i19, rs_a19, rs_i20, rs_a20, rs_i21, rs_a21, rs_i22, rs_a22, rs_i23, rs_a23, rs_i24, rs_a24, rs_i25, rs_a25, rs_i26, rs_a26, rs_i27, rs_a27, rs_i28, rs_a28, rs_i29, rs_a29, rs_i30, rs_a30, rs_i31, rs_a31, rs_i32, rs_a32, rs_i33, rs_a33, rs_i34, rs_a34, rs_i35, rs_a35, rs_i36, rs_a36, rs_w_0, rs_w_1, rs_w_2, rs_w_28, rs_w_30, rs_w_41, mxl_87, mxl_88, mxl_89, mxl_90, mxl_91, mxl_92, mxl_93, mxl_94, mxl_95, mxl_96, mxl_97, mxl_98, mxl_99, mxl_100, mxl_101, mxl_102, mxl_103, mxl_104, mxl_105, mxl_106, mxl_107, mxl_108, mxl_109, mxl_110, mxl_111, mxl_112, mxl_113, mxl_114, mxl_115, mxl_116, mxl_117, mxl_118, mxl_119, mxl_120, mxl_121, mxl_122, mxl_123, mxl_124, mxl_125, mxl_126, mxl_127, mxl_128, mxl_129, mxl_130, mxl_131, mxl_132, mxl_133, mxl_134, mxl_135, mxl_136, mxl_137, c1, I_100, hix, hcl, true_or, nI_1, rs_fg_s]
theorem R_ft_loop {x : Nat} (hx : x < 5) : ∀ (j k : Nat), k + j = 9 →
    (mj_wp (tb ar) 94 (94, [some (.ref B), some (.int (nI x)), some (.int (nI k))], [], rs_st ar B z q (rs_u s 23 (w_fr (s.2 23) (9 * x) k))) Q ↔ Q (.inl none) (rs_st ar B z q (rs_u s 23 (w_fr (s.2 23) (9 * x) 9))))
  | 0, k, h => by
    have h' : k = 9 := by omega
    subst h'
    have c1 : (9 : Int32) ≤ nI 9 := by decide
    simp only [r94_94, r94_95, r94_97, r94_118, wo_nx, wo_ret, wo_ite, wo_call, bk_inl, mj_lda, mj_ldi, mj_sti, mj_sta, mj_b2, mj_br1, mj_br2, mj_brn, mj_ir, mj_rr, mj_nx, mj_gf, mj_k2, mj_rc, mj_dup, mj_inc, List.getElem?_cons_zero, List.getElem?_cons_succ, List.length_cons, List.length_nil, List.set_cons_succ, List.set_cons_zero, Nat.reduceAdd, Nat.reduceLT, if_true, if_false, mj_iif, decide_eq_true_eq, List.take_succ_cons, List.take_zero, List.reverse_cons, List.reverse_nil, List.nil_append, List.cons_append, List.drop_succ_cons, List.drop_zero, List.map_cons, List.map_nil, cat_i, cat_r, cat_n, Nat.reduceLeDiff, true_and, and_true, decide_true, Option.toList_some, Option.toList_none, and_self, Nat.le_refl, mj_il, mj_is, mj_zs, mj_pf, mj_fit, mj_vr, mj_zr, mj_dup2, mj_pop, Option.isSome_some, rs_cls, rs_u1, rs_u2, rs_w1, rs_w2, Nat.reduceEqDiff, reduceIte, rs_f0, rs_f1, rs_f2, rs_f3, rs_f4, rs_f5, rs_f6, rs_f7, rs_f8, rs_f9, rs_f10, rs_f11, rs_f12, rs_f13, rs_f14, rs_f15, rs_f16, rs_f17, rs_f18, rs_f19, rs_f20, rs_f21, rs_f22, rs_f23, rs_f24, rs_f25, rs_f26, rs_f27, rs_f28, rs_f29, rs_f30, rs_f31, rs_f32, rs_f33, rs_f34, rs_f35, rs_f36, rs_f37, rs_f38, rs_f39, rs_f40, rs_f41, rs_i1, rs_a1, rs_i2, rs_a2, rs_i3, rs_a3, rs_i4, rs_a4, rs_i5, rs_a5, rs_i6, rs_a6, rs_i7, rs_a7, rs_i8, rs_a8, rs_i9, rs_a9, rs_i10, rs_a10, rs_i11, rs_a11, rs_i12, rs_a12, rs_i13, rs_a13, rs_i14, rs_a14, rs_i15, rs_a15, rs_i16, rs_a16, rs_i17, rs_a17, rs_i18, rs_a18, rs_i19, rs_a19, rs_i20, rs_a20, rs_i21, rs_a21, rs_i22, rs_a22, rs_i23, rs_a23, rs_i24, rs_a24, rs_i25, rs_a25, rs_i26, rs_a26, rs_i27, rs_a27, rs_i28, rs_a28, rs_i29, rs_a29, rs_i30, rs_a30, rs_i31, rs_a31, rs_i32, rs_a32, rs_i33, rs_a33, rs_i34, rs_a34, rs_i35, rs_a35, rs_i36, rs_a36, rs_w_0, rs_w_1, rs_w_2, rs_w_28, rs_w_30, rs_w_41, mxl_87, mxl_88, mxl_89, mxl_90, mxl_91, mxl_92, mxl_93, mxl_94, mxl_95, mxl_96, mxl_97, mxl_98, mxl_99, mxl_100, mxl_101, mxl_102, mxl_103, mxl_104, mxl_105, mxl_106, mxl_107, mxl_108, mxl_109, mxl_110, mxl_111, mxl_112, mxl_113, mxl_114, mxl_115, mxl_116, mxl_117, mxl_118, mxl_119, mxl_120, mxl_121, mxl_122, mxl_123, mxl_124, mxl_125, mxl_126, mxl_127, mxl_128, mxl_129, mxl_130, mxl_131, mxl_132, mxl_133, mxl_134, mxl_135, mxl_136, mxl_137, c1]
  | j + 1, k, h => by
    have c1 : ¬ (9 : Int32) ≤ nI k := by
      have e : (9 : Int32) = nI 9 := rfl
      rw [e]; exact nI_ge (by omega) (by decide)
    have ih := R_ft_loop hx j (k + 1) (by omega)
    have hix : mj_ix (nI (9 * x + k)) 45 = true := ix_of (by omega) (by decide)
    have hcl : (nI (9 * x + k)).toNatClampNeg = 9 * x + k := nI_clamp (by omega)
    refine Iff.trans ?_ ih
    rw [r94_94]
    simp only [r94_95, r94_97, r94_100, r94_101, r94_104, r94_106, r94_107, r94_108, r94_109, r94_110, r94_111, r94_112, r94_115, wo_nx, wo_ret, wo_ite, wo_call, bk_inl, mj_lda, mj_ldi, mj_sti, mj_sta, mj_b2, mj_br1, mj_br2, mj_brn, mj_ir, mj_rr, mj_nx, mj_gf, mj_k2, mj_rc, mj_dup, mj_inc, List.getElem?_cons_zero, List.getElem?_cons_succ, List.length_cons, List.length_nil, List.set_cons_succ, List.set_cons_zero, Nat.reduceAdd, Nat.reduceLT, if_true, if_false, mj_iif, decide_eq_true_eq, List.take_succ_cons, List.take_zero, List.reverse_cons, List.reverse_nil, List.nil_append, List.cons_append, List.drop_succ_cons, List.drop_zero, List.map_cons, List.map_nil, cat_i, cat_r, cat_n, Nat.reduceLeDiff, true_and, and_true, decide_true, Option.toList_some, Option.toList_none, and_self, Nat.le_refl, mj_il, mj_is, mj_zs, mj_pf, mj_fit, mj_vr, mj_zr, mj_dup2, mj_pop, Option.isSome_some, rs_cls, rs_u1, rs_u2, rs_w1, rs_w2, Nat.reduceEqDiff, reduceIte, rs_f0, rs_f1, rs_f2, rs_f3, rs_f4, rs_f5, rs_f6, rs_f7, rs_f8, rs_f9, rs_f10, rs_f11, rs_f12, rs_f13, rs_f14, rs_f15, rs_f16, rs_f17, rs_f18, rs_f19, rs_f20, rs_f21, rs_f22, rs_f23, rs_f24, rs_f25, rs_f26, rs_f27, rs_f28, rs_f29, rs_f30, rs_f31, rs_f32, rs_f33, rs_f34, rs_f35, rs_f36, rs_f37, rs_f38, rs_f39, rs_f40, rs_f41, rs_i1, rs_a1, rs_i2, rs_a2, rs_i3, rs_a3, rs_i4, rs_a4, rs_i5, rs_a5, rs_i6, rs_a6, rs_i7, rs_a7, rs_i8, rs_a8, rs_i9, rs_a9, rs_i10, rs_a10, rs_i11, rs_a11, rs_i12, rs_a12, rs_i13, rs_a13, rs_i14, rs_a14, rs_i15, rs_a15, rs_i16, rs_a16, rs_i17, rs_a17, rs_i18, rs_a18, rs_i19, rs_a19, rs_i20, rs_a20, rs_i21, rs_a21, rs_i22, rs_a22, rs_i23, rs_a23, rs_i24, rs_a24, rs_i25, rs_a25, rs_i26, rs_a26, rs_i27, rs_a27, rs_i28, rs_a28, rs_i29, rs_a29, rs_i30, rs_a30, rs_i31, rs_a31, rs_i32, rs_a32, rs_i33, rs_a33, rs_i34, rs_a34, rs_i35, rs_a35, rs_i36, rs_a36, rs_w_0, rs_w_1, rs_w_2, rs_w_28, rs_w_30, rs_w_41, mxl_87, mxl_88, mxl_89, mxl_90, mxl_91, mxl_92, mxl_93, mxl_94, mxl_95, mxl_96, mxl_97, mxl_98, mxl_99, mxl_100, mxl_101, mxl_102, mxl_103, mxl_104, mxl_105, mxl_106, mxl_107, mxl_108, mxl_109, mxl_110, mxl_111, mxl_112, mxl_113, mxl_114, mxl_115, mxl_116, mxl_117, mxl_118, mxl_119, mxl_120, mxl_121, mxl_122, mxl_123, mxl_124, mxl_125, mxl_126, mxl_127, mxl_128, mxl_129, mxl_130, mxl_131, mxl_132, mxl_133, mxl_134, mxl_135, mxl_136, mxl_137, c1, I_9, hix, hcl, nI_1, rs_uu, fr_s]
/-- a role ends -/
def rs_fo (s : rs_S) (x : Nat) : rs_S := rs_u (rs_u (rs_u (rs_u (rs_u (rs_u s 12 (upd (s.2 12) x 0)) 13 (upd (s.2 13) x 0)) 14 (upd (s.2 14) x 0)) 15 (upd (s.2 15) x 0)) 24 (upd (s.2 24) x 0)) 25 (upd (s.2 25) x 0)
def rs_forget (s : rs_S) (x : Nat) : rs_S := rs_u (rs_fg (rs_fo s x) x 100) 23 (w_fr ((rs_fg (rs_fo s x) x 100).2 23) (9 * x) 9)
theorem R_forget {x : Nat} (hx : x < 5) : mj_wp (tb ar) 94 (mj_en (tb ar) 94 [.ref B, .int (nI x)] (rs_st ar B z q s)) Q ↔ Q (.inl none) (rs_st ar B z q (rs_forget s x)) := by
  rw [ent_94]
  have hix : mj_ix (nI x) 5 = true := ix_of hx (by decide)
  have hcl : (nI x).toNatClampNeg = x := nI_clamp (by omega)
  have hl := R_fg_loop (ar := ar) (B := B) (z := z) (q := q) (s := rs_fo s x) (Q := Q) hx 100 0 (by omega)
  rw [rs_fg_0, nI_0] at hl
  have hl2 := R_ft_loop (ar := ar) (B := B) (z := z) (q := q) (s := rs_fg (rs_fo s x) x 100) (Q := Q) hx 9 0 (by omega)
  rw [fr_0, rs_us, nI_0] at hl2
  refine Iff.trans (Iff.trans ?_ hl) ?_
  · simp only [r94_0, r94_1, r94_4, r94_5, r94_6, r94_7, r94_8, r94_11, r94_12, r94_13, r94_14, r94_15, r94_18, r94_19, r94_20, r94_21, r94_22, r94_25, r94_26, r94_27, r94_28, r94_29, r94_32, r94_33, r94_34, r94_35, r94_36, r94_39, r94_40, r94_41, r94_42, r94_43, wo_nx, wo_ret, wo_ite, wo_call, bk_inl, mj_lda, mj_ldi, mj_sti, mj_sta, mj_b2, mj_br1, mj_br2, mj_brn, mj_ir, mj_rr, mj_nx, mj_gf, mj_k2, mj_rc, mj_dup, mj_inc, List.getElem?_cons_zero, List.getElem?_cons_succ, List.length_cons, List.length_nil, List.set_cons_succ, List.set_cons_zero, Nat.reduceAdd, Nat.reduceLT, if_true, if_false, mj_iif, decide_eq_true_eq, List.take_succ_cons, List.take_zero, List.reverse_cons, List.reverse_nil, List.nil_append, List.cons_append, List.drop_succ_cons, List.drop_zero, List.map_cons, List.map_nil, cat_i, cat_r, cat_n, Nat.reduceLeDiff, true_and, and_true, decide_true, Option.toList_some, Option.toList_none, and_self, Nat.le_refl, mj_il, mj_is, mj_zs, mj_pf, mj_fit, mj_vr, mj_zr, mj_dup2, mj_pop, Option.isSome_some, rs_cls, rs_u1, rs_u2, rs_w1, rs_w2, Nat.reduceEqDiff, reduceIte, rs_f0, rs_f1, rs_f2, rs_f3, rs_f4, rs_f5, rs_f6, rs_f7, rs_f8, rs_f9, rs_f10, rs_f11, rs_f12, rs_f13, rs_f14, rs_f15, rs_f16, rs_f17, rs_f18, rs_f19, rs_f20, rs_f21, rs_f22, rs_f23, rs_f24, rs_f25, rs_f26, rs_f27, rs_f28, rs_f29, rs_f30, rs_f31, rs_f32, rs_f33, rs_f34, rs_f35, rs_f36, rs_f37, rs_f38, rs_f39, rs_f40, rs_f41, rs_i1, rs_a1, rs_i2, rs_a2, rs_i3, rs_a3, rs_i4, rs_a4, rs_i5, rs_a5, rs_i6, rs_a6, rs_i7, rs_a7, rs_i8, rs_a8, rs_i9, rs_a9, rs_i10, rs_a10, rs_i11, rs_a11, rs_i12, rs_a12, rs_i13, rs_a13, rs_i14, rs_a14, rs_i15, rs_a15, rs_i16, rs_a16, rs_i17, rs_a17, rs_i18, rs_a18, rs_i19, rs_a19, rs_i20, rs_a20, rs_i21, rs_a21, rs_i22, rs_a22, rs_i23, rs_a23, rs_i24, rs_a24, rs_i25, rs_a25, rs_i26, rs_a26, rs_i27, rs_a27, rs_i28, rs_a28, rs_i29, rs_a29, rs_i30, rs_a30, rs_i31, rs_a31, rs_i32, rs_a32, rs_i33, rs_a33, rs_i34, rs_a34, rs_i35, rs_a35, rs_i36, rs_a36, rs_w_0, rs_w_1, rs_w_2, rs_w_28, rs_w_30, rs_w_41, mxl_87, mxl_88, mxl_89, mxl_90, mxl_91, mxl_92, mxl_93, mxl_94, mxl_95, mxl_96, mxl_97, mxl_98, mxl_99, mxl_100, mxl_101, mxl_102, mxl_103, mxl_104, mxl_105, mxl_106, mxl_107, mxl_108, mxl_109, mxl_110, mxl_111, mxl_112, mxl_113, mxl_114, mxl_115, mxl_116, mxl_117, mxl_118, mxl_119, mxl_120, mxl_121, mxl_122, mxl_123, mxl_124, mxl_125, mxl_126, mxl_127, mxl_128, mxl_129, mxl_130, mxl_131, mxl_132, mxl_133, mxl_134, mxl_135, mxl_136, mxl_137, hix, hcl]
    rfl
  · refine Iff.trans ?_ hl2
    simp only [r94_92, r94_93, wo_nx, wo_ret, wo_ite, wo_call, bk_inl, mj_lda, mj_ldi, mj_sti, mj_sta, mj_b2, mj_br1, mj_br2, mj_brn, mj_ir, mj_rr, mj_nx, mj_gf, mj_k2, mj_rc, mj_dup, mj_inc, List.getElem?_cons_zero, List.getElem?_cons_succ, List.length_cons, List.length_nil, List.set_cons_succ, List.set_cons_zero, Nat.reduceAdd, Nat.reduceLT, if_true, if_false, mj_iif, decide_eq_true_eq, List.take_succ_cons, List.take_zero, List.reverse_cons, List.reverse_nil, List.nil_append, List.cons_append, List.drop_succ_cons, List.drop_zero, List.map_cons, List.map_nil, cat_i, cat_r, cat_n, Nat.reduceLeDiff, true_and, and_true, decide_true, Option.toList_some, Option.toList_none, and_self, Nat.le_refl, mj_il, mj_is, mj_zs, mj_pf, mj_fit, mj_vr, mj_zr, mj_dup2, mj_pop, Option.isSome_some, rs_cls, rs_u1, rs_u2, rs_w1, rs_w2, Nat.reduceEqDiff, reduceIte, rs_f0, rs_f1, rs_f2, rs_f3, rs_f4, rs_f5, rs_f6, rs_f7, rs_f8, rs_f9, rs_f10, rs_f11, rs_f12, rs_f13, rs_f14, rs_f15, rs_f16, rs_f17, rs_f18, rs_f19, rs_f20, rs_f21, rs_f22, rs_f23, rs_f24, rs_f25, rs_f26, rs_f27, rs_f28, rs_f29, rs_f30, rs_f31, rs_f32, rs_f33, rs_f34, rs_f35, rs_f36, rs_f37, rs_f38, rs_f39, rs_f40, rs_f41, rs_i1, rs_a1, rs_i2, rs_a2, rs_i3, rs_a3, rs_i4, rs_a4, rs_i5, rs_a5, rs_i6, rs_a6, rs_i7, rs_a7, rs_i8, rs_a8, rs_i9, rs_a9, rs_i10, rs_a10, rs_i11, rs_a11, rs_i12, rs_a12, rs_i13, rs_a13, rs_i14, rs_a14, rs_i15, rs_a15, rs_i16, rs_a16, rs_i17, rs_a17, rs_i18, rs_a18, rs_i19, rs_a19, rs_i20, rs_a20, rs_i21, rs_a21, rs_i22, rs_a22, rs_i23, rs_a23, rs_i24, rs_a24, rs_i25, rs_a25, rs_i26, rs_a26, rs_i27, rs_a27, rs_i28, rs_a28, rs_i29, rs_a29, rs_i30, rs_a30, rs_i31, rs_a31, rs_i32, rs_a32, rs_i33, rs_a33, rs_i34, rs_a34, rs_i35, rs_a35, rs_i36, rs_a36, rs_w_0, rs_w_1, rs_w_2, rs_w_28, rs_w_30, rs_w_41, mxl_87, mxl_88, mxl_89, mxl_90, mxl_91, mxl_92, mxl_93, mxl_94, mxl_95, mxl_96, mxl_97, mxl_98, mxl_99, mxl_100, mxl_101, mxl_102, mxl_103, mxl_104, mxl_105, mxl_106, mxl_107, mxl_108, mxl_109, mxl_110, mxl_111, mxl_112, mxl_113, mxl_114, mxl_115, mxl_116, mxl_117, mxl_118, mxl_119, mxl_120, mxl_121, mxl_122, mxl_123, mxl_124, mxl_125, mxl_126, mxl_127, mxl_128, mxl_129, mxl_130, mxl_131, mxl_132, mxl_133, mxl_134, mxl_135, mxl_136, mxl_137]
end RF
