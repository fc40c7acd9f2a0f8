/-! what waits at the mains; propose -/
section RO6
variable {ar : Nat → ClassId} {B z q : Nat} {s s' : rs_S} {σ : mj_S} {Q : (Option Value ⊕ String) → mj_S → Prop} {W O hd : List Nat} {m x y t : Nat} {P : Int32 → Bool} {f g : Nat → Int32}
def cw (P : Int32 → Bool) (f : Nat → Int32) : Nat → Nat
  | 0 => 0
  | k + 1 => cw P f k + (if P (f k) = true then 1 else 0)
theorem cw_sh : ∀ v : Nat, cw P (fun i => f (i + 1)) v + (if P (f 0) = true then 1 else 0) = cw P f (v + 1)
  | 0 => by
    show 0 + _ = 0 + _
    rfl
  | v + 1 => by
    have h := cw_sh v
    show cw P (fun i => f (i + 1)) v + (if P (f (v + 1)) = true then 1 else 0) + _ = cw P f (v + 1) + (if P (f (v + 1)) = true then 1 else 0)
    omega
theorem cw_cg : ∀ v : Nat, (∀ i, i < v → f i = g i) → cw P f v = cw P g v
  | 0, _ => rfl
  | v + 1, h => by
    show cw P f v + _ = cw P g v + _
    rw [cw_cg v (fun i hi => h i (by omega)), h v (Nat.lt_succ_self _)]
def pN : Int32 → Bool := fun c => !(decide (c < 0))
def pG (g : Nat) : Int32 → Bool := fun c => c == -1 - nI g
/-- v commands wait: at most 20 that take no main out, each main's at most once -/
def wk (f : Nat → Int32) (v : Nat) : Prop := v ≤ cw pN f v + cw (pG 0) f v + cw (pG 1) f v + cw (pG 2) f v + cw (pG 3) f v + cw (pG 4) f v ∧ cw pN f v ≤ 20 ∧ ∀ g, g < 5 → cw (pG g) f v ≤ 1
theorem wk_le {v : Nat} (h : wk f v) : v ≤ 25 := by
  have h0 := h.2.2 0 (by decide)
  have h1 := h.2.2 1 (by decide)
  have h2 := h.2.2 2 (by decide)
  have h3 := h.2.2 3 (by decide)
  have h4 := h.2.2 4 (by decide)
  have := h.1
  have := h.2.1
  omega
theorem one_p (c : Int32) : (if pN c = true then 1 else 0) + (if pG 0 c = true then 1 else 0) + (if pG 1 c = true then 1 else 0) + (if pG 2 c = true then 1 else 0) + (if pG 3 c = true then 1 else 0) + (if pG 4 c = true then 1 else 0) ≤ 1 := by
  have e : ∀ g : Nat, pG g c = true ↔ c = -1 - nI g := fun g => beq_iff_eq
  by_cases h0 : c = -1 - nI 0
  · subst h0
    decide
  · by_cases h1 : c = -1 - nI 1
    · subst h1
      decide
    · by_cases h2 : c = -1 - nI 2
      · subst h2
        decide
      · by_cases h3 : c = -1 - nI 3
        · subst h3
          decide
        · by_cases h4 : c = -1 - nI 4
          · subst h4
            decide
          · rw [if_neg (fun q => h0 ((e 0).mp q)), if_neg (fun q => h1 ((e 1).mp q)), if_neg (fun q => h2 ((e 2).mp q)), if_neg (fun q => h3 ((e 3).mp q)), if_neg (fun q => h4 ((e 4).mp q))]
            split <;> decide
theorem wk_sh {v : Nat} (h : wk f (v + 1)) : wk (fun i => f (i + 1)) v := by
  obtain ⟨h1, h2, h3⟩ := h
  have o := one_p (f 0)
  have a0 := cw_sh (P := pN) (f := f) v
  have a1 := cw_sh (P := pG 0) (f := f) v
  have a2 := cw_sh (P := pG 1) (f := f) v
  have a3 := cw_sh (P := pG 2) (f := f) v
  have a4 := cw_sh (P := pG 3) (f := f) v
  have a5 := cw_sh (P := pG 4) (f := f) v
  refine ⟨by omega, by omega, fun g hg => ?_⟩
  have a := cw_sh (P := pG g) (f := f) v
  have := h3 g hg
  omega
theorem wk_cg {v : Nat} (h : ∀ i, i < v → f i = g i) (hw : wk f v) : wk g v := by
  obtain ⟨h1, h2, h3⟩ := hw
  refine ⟨?_, by rw [← cw_cg v h]; exact h2, fun k hk => by rw [← cw_cg v h]; exact h3 k hk⟩
  rw [← cw_cg v h, ← cw_cg v h, ← cw_cg v h, ← cw_cg v h, ← cw_cg v h, ← cw_cg v h]
  exact h1
def rs_V (s : rs_S) (m : Nat) : Prop := ∀ x, x < m → ∃ v : Nat, s.2 9 x = nI v ∧ wk (fun i => s.2 10 (64 * x + i)) v
theorem V_kept (h : rs_V s m) (e1 : s'.2 9 = s.2 9) (e2 : s'.2 10 = s.2 10) : rs_V s' m := by
  intro x hx
  rw [e1, e2]
  exact h x hx
theorem I_64 {x k : Nat} : (64 : Int32) * nI x + nI k = nI (64 * x + k) := by
  have e : (64 : Int32) = nI 64 := rfl
  rw [e, nIm, nI_add]
theorem I_64a {x : Nat} : (64 : Int32) * nI x = nI (64 * x) := by
  have e : (64 : Int32) = nI 64 := rfl
  rw [e, nIm]
/-- the first that waits is taken; the others move up -/
theorem R_pw_lp {v : Nat} {l2 l3 l4 l5 l6 l8 l9 : Option Value} (hx : x < 5) (hv : v < 64) (h9 : s.2 9 x = nI v) : ∀ (j k : Nat), k + j = v → (mj_wp (tb ar) 106 (180, [some (.ref B), some (.int (nI x)), l2, l3, l4, l5, l6, some (.int (nI k)), l8, l9], [], rs_st ar B z q (rs_u s 10 (rs_to (s.2 10) (64 * x) (64 * x + k)))) Q ↔ mj_wp (tb ar) 106 (223, [some (.ref B), some (.int (nI x)), l2, l3, l4, l5, l6, some (.int (nI v)), l8, l9], [], rs_st ar B z q (rs_u s 10 (rs_to (s.2 10) (64 * x) (64 * x + v)))) Q)
  | 0, k, h => by
    have h' : k = v := by omega
    subst h'
    have hix5 : mj_ix (nI x) 5 = true := ix_of hx (by decide)
    have hcl : (nI x).toNatClampNeg = x := nI_clamp (by omega)
    have c1 : nI k ≤ nI k := nI_le (Nat.le_refl _) (by omega)
    simp only [r106_180, r106_182, r106_183, r106_186, r106_187, r106_188, wo_nx, wo_ret, wo_ite, wo_call, bk_inl, mj_lda, mj_ldi, mj_sti, mj_sta, mj_b2, mj_br1, mj_br2, mj_brn, mj_ir, mj_rr, mj_nx, mj_gf, mj_k2, mj_rc, mj_dup, mj_inc, List.getElem?_cons_zero, List.getElem?_cons_succ, List.length_cons, List.length_nil, List.set_cons_succ, List.set_cons_zero, Nat.reduceAdd, Nat.reduceLT, if_true, if_false, mj_iif, decide_eq_true_eq, List.take_succ_cons, List.take_zero, List.reverse_cons, List.reverse_nil, List.nil_append, List.cons_append, List.drop_succ_cons, List.drop_zero, List.map_cons, List.map_nil, cat_i, cat_r, cat_n, Nat.reduceLeDiff, true_and, and_true, decide_true, Option.toList_some, Option.toList_none, and_self, Nat.le_refl, mj_il, mj_is, mj_zs, mj_pf, mj_fit, mj_vr, mj_zr, mj_dup2, mj_pop, Option.isSome_some, rs_cls, rs_u1, rs_u2, rs_w1, rs_w2, Nat.reduceEqDiff, reduceIte, rs_f0, rs_f1, rs_f2, rs_f3, rs_f4, rs_f5, rs_f6, rs_f7, rs_f8, rs_f9, rs_f10, rs_f11, rs_f12, rs_f13, rs_f14, rs_f15, rs_f16, rs_f17, rs_f18, rs_f19, rs_f20, rs_f21, rs_f22, rs_f23, rs_f24, rs_f25, rs_f26, rs_f27, rs_f28, rs_f29, rs_f30, rs_f31, rs_f32, rs_f33, rs_f34, rs_f35, rs_f36, rs_f37, rs_f38, rs_f39, rs_f40, rs_f41, rs_i1, rs_a1, rs_i2, rs_a2, rs_i3, rs_a3, rs_i4, rs_a4, rs_i5, rs_a5, rs_i6, rs_a6, rs_i7, rs_a7, rs_i8, rs_a8, rs_i9, rs_a9, rs_i10, rs_a10, rs_i11, rs_a11, rs_i12, rs_a12, rs_i13, rs_a13, rs_i14, rs_a14, rs_i15, rs_a15, rs_i16, rs_a16, rs_i17, rs_a17, rs_i18, rs_a18, rs_i19, rs_a19, rs_i20, rs_a20, rs_i21, rs_a21, rs_i22, rs_a22, rs_i23, rs_a23, rs_i24, rs_a24, rs_i25, rs_a25, rs_i26, rs_a26, rs_i27, rs_a27, rs_i28, rs_a28, rs_i29, rs_a29, rs_i30, rs_a30, rs_i31, rs_a31, rs_i32, rs_a32, rs_i33, rs_a33, rs_i34, rs_a34, rs_i35, rs_a35, rs_i36, rs_a36, rs_w_0, rs_w_1, rs_w_2, rs_w_28, rs_w_30, rs_w_41, mxl_87, mxl_88, mxl_89, mxl_90, mxl_91, mxl_92, mxl_93, mxl_94, mxl_95, mxl_96, mxl_97, mxl_98, mxl_99, mxl_100, mxl_101, mxl_102, mxl_103, mxl_104, mxl_105, mxl_106, mxl_107, mxl_108, mxl_109, mxl_110, mxl_111, mxl_112, mxl_113, mxl_114, mxl_115, mxl_116, mxl_117, mxl_118, mxl_119, mxl_120, mxl_121, mxl_122, mxl_123, mxl_124, mxl_125, mxl_126, mxl_127, mxl_128, mxl_129, mxl_130, mxl_131, mxl_132, mxl_133, mxl_134, mxl_135, mxl_136, mxl_137, hix5, hcl, h9, c1]
  | j + 1, k, h => by
    have hix5 : mj_ix (nI x) 5 = true := ix_of hx (by decide)
    have hcl : (nI x).toNatClampNeg = x := nI_clamp (by omega)
    have c1 : ¬ nI v ≤ nI k := nI_ge (by omega) (by omega)
    have hix : mj_ix (nI (64 * x + k)) 320 = true := ix_of (by omega) (by decide)
    have hclk : (nI (64 * x + k)).toNatClampNeg = 64 * x + k := nI_clamp (by omega)
    have hix2 : mj_ix (nI (64 * x + k + 1)) 320 = true := ix_of (by omega) (by decide)
    have hclk2 : (nI (64 * x + k + 1)).toNatClampNeg = 64 * x + k + 1 := nI_clamp (by omega)
    have ih := R_pw_lp (l2 := l2) (l3 := l3) (l4 := l4) (l5 := l5) (l6 := l6) (l8 := l8) (l9 := l9) hx hv h9 j (k + 1) (by omega)
    refine Iff.trans ?_ ih
    rw [r106_180]
    simp only [r106_182, r106_183, r106_186, r106_187, r106_188, r106_191, r106_192, r106_195, r106_197, r106_198, r106_199, r106_201, r106_202, r106_203, r106_206, r106_208, r106_209, r106_210, r106_212, r106_213, r106_214, r106_215, r106_216, r106_217, r106_220, wo_nx, wo_ret, wo_ite, wo_call, bk_inl, mj_lda, mj_ldi, mj_sti, mj_sta, mj_b2, mj_br1, mj_br2, mj_brn, mj_ir, mj_rr, mj_nx, mj_gf, mj_k2, mj_rc, mj_dup, mj_inc, List.getElem?_cons_zero, List.getElem?_cons_succ, List.length_cons, List.length_nil, List.set_cons_succ, List.set_cons_zero, Nat.reduceAdd, Nat.reduceLT, if_true, if_false, mj_iif, decide_eq_true_eq, List.take_succ_cons, List.take_zero, List.reverse_cons, List.reverse_nil, List.nil_append, List.cons_append, List.drop_succ_cons, List.drop_zero, List.map_cons, List.map_nil, cat_i, cat_r, cat_n, Nat.reduceLeDiff, true_and, and_true, decide_true, Option.toList_some, Option.toList_none, and_self, Nat.le_refl, mj_il, mj_is, mj_zs, mj_pf, mj_fit, mj_vr, mj_zr, mj_dup2, mj_pop, Option.isSome_some, rs_cls, rs_u1, rs_u2, rs_w1, rs_w2, Nat.reduceEqDiff, reduceIte, rs_f0, rs_f1, rs_f2, rs_f3, rs_f4, rs_f5, rs_f6, rs_f7, rs_f8, rs_f9, rs_f10, rs_f11, rs_f12, rs_f13, rs_f14, rs_f15, rs_f16, rs_f17, rs_f18, rs_f19, rs_f20, rs_f21, rs_f22, rs_f23, rs_f24, rs_f25, rs_f26, rs_f27, rs_f28, rs_f29, rs_f30, rs_f31, rs_f32, rs_f33, rs_f34, rs_f35, rs_f36, rs_f37, rs_f38, rs_f39, rs_f40, rs_f41, rs_i1, rs_a1, rs_i2, rs_a2, rs_i3, rs_a3, rs_i4, rs_a4, rs_i5, rs_a5, rs_i6, rs_a6, rs_i7, rs_a7, rs_i8, rs_a8, rs_i9, rs_a9, rs_i10, rs_a10, rs_i11, rs_a11, rs_i12, rs_a12, rs_i13, rs_a13, rs_i14, rs_a14, rs_i15, rs_a15, rs_i16, rs_a16, rs_i17, rs_a17, rs_i18, rs_a18, rs_i19, rs_a19, rs_i20, rs_a20, rs_i21, rs_a21, rs_i22, rs_a22, rs_i23, rs_a23, rs_i24, rs_a24, rs_i25, rs_a25, rs_i26, rs_a26, rs_i27, rs_a27, rs_i28, rs_a28, rs_i29, rs_a29, rs_i30, rs_a30, rs_i31, rs_a31, rs_i32, rs_a32, rs_i33, rs_a33, rs_i34, rs_a34, rs_i35, rs_a35, rs_i36, rs_a36, rs_w_0, rs_w_1, rs_w_2, rs_w_28, rs_w_30, rs_w_41, mxl_87, mxl_88, mxl_89, mxl_90, mxl_91, mxl_92, mxl_93, mxl_94, mxl_95, mxl_96, mxl_97, mxl_98, mxl_99, mxl_100, mxl_101, mxl_102, mxl_103, mxl_104, mxl_105, mxl_106, mxl_107, mxl_108, mxl_109, mxl_110, mxl_111, mxl_112, mxl_113, mxl_114, mxl_115, mxl_116, mxl_117, mxl_118, mxl_119, mxl_120, mxl_121, mxl_122, mxl_123, mxl_124, mxl_125, mxl_126, mxl_127, mxl_128, mxl_129, mxl_130, mxl_131, mxl_132, mxl_133, mxl_134, mxl_135, mxl_136, mxl_137, hix5, hcl, h9, c1, I_64, hix, hclk, nI_1, hix2, hclk2, to_at, rs_uu, to_s (show 64 * x ≤ 64 * x + k by omega)]
    rfl
end RO6
