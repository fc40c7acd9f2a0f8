section RK9
variable {ar : Nat → ClassId} {B z q : Nat} {s s' : rs_S} {σ : mj_S} {Q : (Option Value ⊕ String) → mj_S → Prop} {W O hd : List Nat} {n : Nat}
/-- what holds of the nodes: ranges -/
def rs_J (s : rs_S) (m : Nat) : Prop :=
  (s.1 1 = nI m ∧ s.1 2 = nI (2 * m - 1)) ∧ (∀ x, x < 2 * m - 1 → ∃ v : Nat, v ≤ 8007 ∧ s.2 2 x = nI v) ∧ (∀ x, x < 2 * m - 1 → ∃ v : Nat, v ≤ 100 ∧ s.2 3 x = nI v) ∧
  (∀ x, x < m → ∃ K : Nat, K ≤ 100 ∧ s.2 8 x = nI K ∧ (∀ k, k < K → ¬ s.2 6 (100 * x + k) = 0) ∧ ∀ k, k < 100 → ¬ s.2 19 (100 * x + k) = 0 → k < K + 4) ∧
  (∀ x, x < m → s.2 12 x = 0 ∨ s.2 12 x = 1 ∨ s.2 12 x = 2) ∧ (∀ x, x < m → ∃ v : Nat, v ≤ 8007 ∧ s.2 13 x = nI v) ∧ (∀ x, x < m → ∀ y, y < 9 → ∃ v : Nat, v ≤ 100 ∧ s.2 23 (9 * x + y) = nI v)
/-- the arrays that rs_J speaks of stay -/
theorem J_kept {m : Nat} (J : rs_J s m) (h1 : s'.1 1 = s.1 1) (h2 : s'.1 2 = s.1 2) (e : ∀ t, t = 2 ∨ t = 3 ∨ t = 6 ∨ t = 8 ∨ t = 12 ∨ t = 13 ∨ t = 19 ∨ t = 23 → s'.2 t = s.2 t) : rs_J s' m := by
  obtain ⟨⟨j1, j2⟩, j3, j4, j5, j6, j7, j8⟩ := J
  refine ⟨⟨by rw [h1]; exact j1, by rw [h2]; exact j2⟩, ?_, ?_, ?_, ?_, ?_, ?_⟩
  · rw [e 2 (by decide)]
    exact j3
  · rw [e 3 (by decide)]
    exact j4
  · rw [e 8 (by decide), e 6 (by decide), e 19 (by decide)]
    exact j5
  · rw [e 12 (by decide)]
    exact j6
  · rw [e 13 (by decide)]
    exact j7
  · rw [e 23 (by decide)]
    exact j8
theorem ka_at {hl : Nat → Int32} : ∀ (f K k : Nat), K ≤ k → k < ka_ hl f K → ¬ hl k = 0
  | 0, K, k, h1, h2 => by
    unfold ka_ at h2
    omega
  | f + 1, K, k, h1, h2 => by
    unfold ka_ at h2
    by_cases h : hl K = 0
    · rw [if_pos h] at h2
      omega
    · rw [if_neg h] at h2
      by_cases hk : k = K
      · rw [hk]
        exact h
      · exact ka_at f (K + 1) k (by omega) h2
/-- x's ROLE is gone -/
theorem J_fo {m x : Nat} (J : rs_J s m) (hx : x < m) : rs_J (rs_forget s x) m := by
  obtain ⟨⟨j1, j2⟩, j3, j4, j5, j6, j7, j8⟩ := J
  have e12 : (rs_forget s x).2 12 = upd (s.2 12) x 0 := rfl
  have e13 : (rs_forget s x).2 13 = upd (s.2 13) x 0 := rfl
  have e19 : (rs_forget s x).2 19 = w_fr (s.2 19) (100 * x) 100 := rfl
  have e23 : (rs_forget s x).2 23 = w_fr (s.2 23) (9 * x) 9 := rfl
  refine ⟨⟨j1, j2⟩, j3, j4, fun y hy => ?_, fun y hy => ?_, fun y hy => ?_, fun y hy k hk => ?_⟩
  · obtain ⟨K, k1, k2, k3, k4⟩ := j5 y hy
    refine ⟨K, k1, k2, k3, fun k hk hp => k4 k hk (fun q => hp ?_)⟩
    rw [e19]
    unfold w_fr
    split
    · rfl
    · exact q
  · rw [e12]
    by_cases h : y = x
    · exact Or.inl (by rw [h]; exact upd_at)
    · rw [upd_ne h]
      exact j6 y hy
  · rw [e13]
    by_cases h : y = x
    · exact ⟨0, by decide, by rw [h]; exact upd_at⟩
    · rw [upd_ne h]
      exact j7 y hy
  · rw [e23]
    unfold w_fr
    split
    · exact ⟨0, by decide, rfl⟩
    · exact j8 y hy k hk
theorem J_lk {m x t K : Nat} {c : Int32} (J : rs_J s m) (hx : x < m) (ht : t < 100) (hK : s.2 8 x = nI K) (hK1 : K ≤ 100) (hm5 : m ≤ 5) : rs_J (rs_lk s x t K c) m := by
  obtain ⟨⟨j1, j2⟩, j3, j4, j5, j6, j7, j8⟩ := J
  have e6 : (rs_lk s x t K c).2 6 = upd (s.2 6) (100 * x + t) 1 := rfl
  have e8 : (rs_lk s x t K c).2 8 = upd (s.2 8) x (nI (rs_ek s x t K)) := rfl
  refine ⟨⟨j1, j2⟩, j3, j4, fun y hy => ?_, j6, j7, j8⟩
  obtain ⟨K', k1, k2, k3, k4⟩ := j5 y hy
  have h6 : ∀ i, ¬ s.2 6 i = 0 → ¬ upd (s.2 6) (100 * x + t) 1 i = 0 := fun i hi => by
    unfold upd
    split
    · decide
    · exact hi
  by_cases h : y = x
  · subst h
    have hKK : K' = K := by
      rw [hK] at k2
      exact ((nI_eq (by omega) (by omega)).mp k2).symm
    subst hKK
    have hle := ka_le (hl := fun k => upd (s.2 6) (100 * y + t) 1 (100 * y + k)) (100 - K') K'
    refine ⟨rs_ek s y t K', ?_, by rw [e8]; exact upd_at, fun k hk => ?_, fun k hk hp => ?_⟩
    · unfold rs_ek
      omega
    · rw [e6]
      by_cases hkK : k < K'
      · exact h6 _ (k3 k hkK)
      · exact ka_at (hl := fun k => upd (s.2 6) (100 * y + t) 1 (100 * y + k)) (100 - K') K' k (by omega) hk
    · have := k4 k hk hp
      unfold rs_ek
      omega
  · refine ⟨K', k1, by rw [e8, upd_ne h]; exact k2, fun k hk => ?_, k4⟩
    rw [e6]
    exact h6 _ (k3 k hk)
theorem J_en {m x t K : Nat} {c : Int32} (J : rs_J s m) (hx : x < m) (ht : t < 100) (hK : s.2 8 x = nI K) (hK1 : K ≤ 100) (hm5 : m ≤ 5) : rs_J (rs_en s m x t K c) m := by
  have h := J_lk (c := c) J hx ht hK hK1 hm5
  unfold rs_en
  split
  · exact h
  · split
    · exact J_fo h hx
    · exact h
/-- takeOut's loop: the ones behind move up -/
def rs_to (f : Nat → Int32) (i k : Nat) : Nat → Int32 := fun j => if i ≤ j ∧ j < k then f (j + 1) else f j
theorem to_s {f : Nat → Int32} {i k : Nat} (h : i ≤ k) : upd (rs_to f i k) k (f (k + 1)) = rs_to f i (k + 1) := by
  funext j
  unfold upd rs_to
  by_cases hj : j = k
  · subst hj
    rw [if_pos rfl, if_pos ⟨h, Nat.lt_succ_self _⟩]
  · rw [if_neg hj]
    by_cases h2 : i ≤ j ∧ j < k
    · rw [if_pos h2, if_pos ⟨h2.1, by omega⟩]
    · rw [if_neg h2, if_neg (by omega)]
theorem to_at {f : Nat → Int32} {i k : Nat} : rs_to f i k (k + 1) = f (k + 1) := if_neg (by omega)
theorem R_to_lp {w i : Nat} {v1 : Option Value} (hw : w < 300) (hs : s.1 28 = nI w) : ∀ (j k : Nat), k + j = w → i ≤ k → (mj_wp (tb ar) 112 (12, [some (.ref B), v1, some (.int (nI k))], [], rs_st ar B z q (rs_u s 26 (rs_to (s.2 26) i k))) Q ↔ Q (.inl none) (rs_st ar B z q (rs_u s 26 (rs_to (s.2 26) i w))))
  | 0, k, h, hi => by
    have h' : k = w := by omega
    subst h'
    have c1 : nI k ≤ nI k := nI_le (Nat.le_refl _) (by omega)
    simp only [r112_12, r112_13, r112_14, r112_17, r112_40, wo_nx, wo_ret, wo_ite, wo_call, bk_inl, mj_lda, mj_ldi, mj_sti, mj_sta, mj_b2, mj_br1, mj_br2, mj_brn, mj_ir, mj_rr, mj_nx, mj_gf, mj_k2, mj_rc, mj_dup, mj_inc, List.getElem?_cons_zero, List.getElem?_cons_succ, List.length_cons, List.length_nil, List.set_cons_succ, List.set_cons_zero, Nat.reduceAdd, Nat.reduceLT, if_true, if_false, mj_iif, decide_eq_true_eq, List.take_succ_cons, List.take_zero, List.reverse_cons, List.reverse_nil, List.nil_append, List.cons_append, List.drop_succ_cons, List.drop_zero, List.map_cons, List.map_nil, cat_i, cat_r, cat_n, Nat.reduceLeDiff, true_and, and_true, decide_true, Option.toList_some, Option.toList_none, and_self, Nat.le_refl, mj_il, mj_is, mj_zs, mj_pf, mj_fit, mj_vr, mj_zr, mj_dup2, mj_pop, Option.isSome_some, rs_cls, rs_u1, rs_u2, rs_w1, rs_w2, Nat.reduceEqDiff, reduceIte, rs_f0, rs_f1, rs_f2, rs_f3, rs_f4, rs_f5, rs_f6, rs_f7, rs_f8, rs_f9, rs_f10, rs_f11, rs_f12, rs_f13, rs_f14, rs_f15, rs_f16, rs_f17, rs_f18, rs_f19, rs_f20, rs_f21, rs_f22, rs_f23, rs_f24, rs_f25, rs_f26, rs_f27, rs_f28, rs_f29, rs_f30, rs_f31, rs_f32, rs_f33, rs_f34, rs_f35, rs_f36, rs_f37, rs_f38, rs_f39, rs_f40, rs_f41, rs_i1, rs_a1, rs_i2, rs_a2, rs_i3, rs_a3, rs_i4, rs_a4, rs_i5, rs_a5, rs_i6, rs_a6, rs_i7, rs_a7, rs_i8, rs_a8, rs_i9, rs_a9, rs_i10, rs_a10, rs_i11, rs_a11, rs_i12, rs_a12, rs_i13, rs_a13, rs_i14, rs_a14, rs_i15, rs_a15, rs_i16, rs_a16, rs_i17, rs_a17, rs_i18, rs_a18, rs_i19, rs_a19, rs_i20, rs_a20, rs_i21, rs_a21, rs_i22, rs_a22, rs_i23, rs_a23, rs_i24, rs_a24, rs_i25, rs_a25, rs_i26, rs_a26, rs_i27, rs_a27, rs_i28, rs_a28, rs_i29, rs_a29, rs_i30, rs_a30, rs_i31, rs_a31, rs_i32, rs_a32, rs_i33, rs_a33, rs_i34, rs_a34, rs_i35, rs_a35, rs_i36, rs_a36, rs_w_0, rs_w_1, rs_w_2, rs_w_28, rs_w_30, rs_w_41, mxl_87, mxl_88, mxl_89, mxl_90, mxl_91, mxl_92, mxl_93, mxl_94, mxl_95, mxl_96, mxl_97, mxl_98, mxl_99, mxl_100, mxl_101, mxl_102, mxl_103, mxl_104, mxl_105, mxl_106, mxl_107, mxl_108, mxl_109, mxl_110, mxl_111, mxl_112, mxl_113, mxl_114, mxl_115, mxl_116, mxl_117, mxl_118, mxl_119, mxl_120, mxl_121, mxl_122, mxl_123, mxl_124, mxl_125, mxl_126, mxl_127, mxl_128, mxl_129, mxl_130, mxl_131, mxl_132, mxl_133, mxl_134, mxl_135, mxl_136, mxl_137, hs, c1]
  | j + 1, k, h, hi => by
    have c1 : ¬ nI w ≤ nI k := nI_ge (by omega) (by omega)
    have hix : mj_ix (nI k) 300 = true := ix_of (by omega) (by decide)
    have hcl : (nI k).toNatClampNeg = k := nI_clamp (by omega)
    have hix2 : mj_ix (nI (k + 1)) 300 = true := ix_of (by omega) (by decide)
    have hcl2 : (nI (k + 1)).toNatClampNeg = k + 1 := nI_clamp (by omega)
    have ih := R_to_lp (v1 := v1) hw hs j (k + 1) (by omega) (show i ≤ k + 1 by omega)
    refine Iff.trans ?_ ih
    rw [r112_12]
    simp only [r112_13, r112_14, r112_17, r112_20, r112_21, r112_24, r112_25, r112_26, r112_29, r112_30, r112_31, r112_32, r112_33, r112_34, r112_37, wo_nx, wo_ret, wo_ite, wo_call, bk_inl, mj_lda, mj_ldi, mj_sti, mj_sta, mj_b2, mj_br1, mj_br2, mj_brn, mj_ir, mj_rr, mj_nx, mj_gf, mj_k2, mj_rc, mj_dup, mj_inc, List.getElem?_cons_zero, List.getElem?_cons_succ, List.length_cons, List.length_nil, List.set_cons_succ, List.set_cons_zero, Nat.reduceAdd, Nat.reduceLT, if_true, if_false, mj_iif, decide_eq_true_eq, List.take_succ_cons, List.take_zero, List.reverse_cons, List.reverse_nil, List.nil_append, List.cons_append, List.drop_succ_cons, List.drop_zero, List.map_cons, List.map_nil, cat_i, cat_r, cat_n, Nat.reduceLeDiff, true_and, and_true, decide_true, Option.toList_some, Option.toList_none, and_self, Nat.le_refl, mj_il, mj_is, mj_zs, mj_pf, mj_fit, mj_vr, mj_zr, mj_dup2, mj_pop, Option.isSome_some, rs_cls, rs_u1, rs_u2, rs_w1, rs_w2, Nat.reduceEqDiff, reduceIte, rs_f0, rs_f1, rs_f2, rs_f3, rs_f4, rs_f5, rs_f6, rs_f7, rs_f8, rs_f9, rs_f10, rs_f11, rs_f12, rs_f13, rs_f14, rs_f15, rs_f16, rs_f17, rs_f18, rs_f19, rs_f20, rs_f21, rs_f22, rs_f23, rs_f24, rs_f25, rs_f26, rs_f27, rs_f28, rs_f29, rs_f30, rs_f31, rs_f32, rs_f33, rs_f34, rs_f35, rs_f36, rs_f37, rs_f38, rs_f39, rs_f40, rs_f41, rs_i1, rs_a1, rs_i2, rs_a2, rs_i3, rs_a3, rs_i4, rs_a4, rs_i5, rs_a5, rs_i6, rs_a6, rs_i7, rs_a7, rs_i8, rs_a8, rs_i9, rs_a9, rs_i10, rs_a10, rs_i11, rs_a11, rs_i12, rs_a12, rs_i13, rs_a13, rs_i14, rs_a14, rs_i15, rs_a15, rs_i16, rs_a16, rs_i17, rs_a17, rs_i18, rs_a18, rs_i19, rs_a19, rs_i20, rs_a20, rs_i21, rs_a21, rs_i22, rs_a22, rs_i23, rs_a23, rs_i24, rs_a24, rs_i25, rs_a25, rs_i26, rs_a26, rs_i27, rs_a27, rs_i28, rs_a28, rs_i29, rs_a29, rs_i30, rs_a30, rs_i31, rs_a31, rs_i32, rs_a32, rs_i33, rs_a33, rs_i34, rs_a34, rs_i35, rs_a35, rs_i36, rs_a36, rs_w_0, rs_w_1, rs_w_2, rs_w_28, rs_w_30, rs_w_41, mxl_87, mxl_88, mxl_89, mxl_90, mxl_91, mxl_92, mxl_93, mxl_94, mxl_95, mxl_96, mxl_97, mxl_98, mxl_99, mxl_100, mxl_101, mxl_102, mxl_103, mxl_104, mxl_105, mxl_106, mxl_107, mxl_108, mxl_109, mxl_110, mxl_111, mxl_112, mxl_113, mxl_114, mxl_115, mxl_116, mxl_117, mxl_118, mxl_119, mxl_120, mxl_121, mxl_122, mxl_123, mxl_124, mxl_125, mxl_126, mxl_127, mxl_128, mxl_129, mxl_130, mxl_131, mxl_132, mxl_133, mxl_134, mxl_135, mxl_136, mxl_137, hs, c1, hix, hcl, nI_1, hix2, hcl2, to_at, rs_uu, to_s hi]
theorem R_takeOut {w i : Nat} (hw : w < 300) (hi : i ≤ w) (hs : s.1 28 = nI (w + 1)) : mj_wp (tb ar) 112 (mj_en (tb ar) 112 [.ref B, .int (nI i)] (rs_st ar B z q s)) Q ↔ Q (.inl none) (rs_st ar B z q (rs_u (rs_w s 28 (nI w)) 26 (rs_to (s.2 26) i w))) := by
  rw [ent_112]
  have e : nI (w + 1) - 1 = nI w := by rw [← nI_1, Int32.add_sub_cancel]
  have hl := R_to_lp (ar := ar) (B := B) (z := z) (q := q) (Q := Q) (s := rs_w s 28 (nI w)) (v1 := some (.int (nI i))) (i := i) hw rfl (w - i) i (by omega) (Nat.le_refl _)
  have e2 : rs_u (rs_w s 28 (nI w)) 26 (rs_to ((rs_w s 28 (nI w)).2 26) i i) = rs_w s 28 (nI w) := by
    have : rs_to ((rs_w s 28 (nI w)).2 26) i i = (rs_w s 28 (nI w)).2 26 := by
      funext j
      exact if_neg (by omega)
    rw [this, rs_us]
  rw [e2] at hl
  refine Iff.trans ?_ hl
  simp only [r112_0, r112_1, r112_2, r112_5, r112_6, r112_7, r112_10, r112_11, wo_nx, wo_ret, wo_ite, wo_call, bk_inl, mj_lda, mj_ldi, mj_sti, mj_sta, mj_b2, mj_br1, mj_br2, mj_brn, mj_ir, mj_rr, mj_nx, mj_gf, mj_k2, mj_rc, mj_dup, mj_inc, List.getElem?_cons_zero, List.getElem?_cons_succ, List.length_cons, List.length_nil, List.set_cons_succ, List.set_cons_zero, Nat.reduceAdd, Nat.reduceLT, if_true, if_false, mj_iif, decide_eq_true_eq, List.take_succ_cons, List.take_zero, List.reverse_cons, List.reverse_nil, List.nil_append, List.cons_append, List.drop_succ_cons, List.drop_zero, List.map_cons, List.map_nil, cat_i, cat_r, cat_n, Nat.reduceLeDiff, true_and, and_true, decide_true, Option.toList_some, Option.toList_none, and_self, Nat.le_refl, mj_il, mj_is, mj_zs, mj_pf, mj_fit, mj_vr, mj_zr, mj_dup2, mj_pop, Option.isSome_some, rs_cls, rs_u1, rs_u2, rs_w1, rs_w2, Nat.reduceEqDiff, reduceIte, rs_f0, rs_f1, rs_f2, rs_f3, rs_f4, rs_f5, rs_f6, rs_f7, rs_f8, rs_f9, rs_f10, rs_f11, rs_f12, rs_f13, rs_f14, rs_f15, rs_f16, rs_f17, rs_f18, rs_f19, rs_f20, rs_f21, rs_f22, rs_f23, rs_f24, rs_f25, rs_f26, rs_f27, rs_f28, rs_f29, rs_f30, rs_f31, rs_f32, rs_f33, rs_f34, rs_f35, rs_f36, rs_f37, rs_f38, rs_f39, rs_f40, rs_f41, rs_i1, rs_a1, rs_i2, rs_a2, rs_i3, rs_a3, rs_i4, rs_a4, rs_i5, rs_a5, rs_i6, rs_a6, rs_i7, rs_a7, rs_i8, rs_a8, rs_i9, rs_a9, rs_i10, rs_a10, rs_i11, rs_a11, rs_i12, rs_a12, rs_i13, rs_a13, rs_i14, rs_a14, rs_i15, rs_a15, rs_i16, rs_a16, rs_i17, rs_a17, rs_i18, rs_a18, rs_i19, rs_a19, rs_i20, rs_a20, rs_i21, rs_a21, rs_i22, rs_a22, rs_i23, rs_a23, rs_i24, rs_a24, rs_i25, rs_a25, rs_i26, rs_a26, rs_i27, rs_a27, rs_i28, rs_a28, rs_i29, rs_a29, rs_i30, rs_a30, rs_i31, rs_a31, rs_i32, rs_a32, rs_i33, rs_a33, rs_i34, rs_a34, rs_i35, rs_a35, rs_i36, rs_a36, rs_w_0, rs_w_1, rs_w_2, rs_w_28, rs_w_30, rs_w_41, mxl_87, mxl_88, mxl_89, mxl_90, mxl_91, mxl_92, mxl_93, mxl_94, mxl_95, mxl_96, mxl_97, mxl_98, mxl_99, mxl_100, mxl_101, mxl_102, mxl_103, mxl_104, mxl_105, mxl_106, mxl_107, mxl_108, mxl_109, mxl_110, mxl_111, mxl_112, mxl_113, mxl_114, mxl_115, mxl_116, mxl_117, mxl_118, mxl_119, mxl_120, mxl_121, mxl_122, mxl_123, mxl_124, mxl_125, mxl_126, mxl_127, mxl_128, mxl_129, mxl_130, mxl_131, mxl_132, mxl_133, mxl_134, mxl_135, mxl_136, mxl_137, hs, e]
end RK9
