/-! the reference's finish -/
section RF0
variable {ar : Nat → ClassId} {B z q : Nat} {s s' u s0 : rs_S} {σ : mj_S} {Q : (Option Value ⊕ String) → mj_S → Prop} {W O hd : List Nat} {m n x y p t K : Nat}
def wt_ (k : Int32) : Nat := if k = 1 then 300 else if k = 3 ∨ k = 5 then 2 else 1
def fw (f : Nat → Int32) : List Nat → Nat
  | [] => 0
  | p :: O => wt_ (f p) + fw f O
theorem wt_pos {k : Int32} : 1 ≤ wt_ k := by
  unfold wt_
  split
  · decide
  · split <;> decide
theorem fw_ap {f : Nat → Int32} {O2 : List Nat} : ∀ O : List Nat, fw f (O ++ O2) = fw f O + fw f O2
  | [] => by
    show fw f O2 = 0 + fw f O2
    omega
  | p :: O => by
    have h := fw_ap (f := f) (O2 := O2) O
    show wt_ (f p) + fw f (O ++ O2) = wt_ (f p) + fw f O + fw f O2
    omega
theorem fw_cg {f g : Nat → Int32} : ∀ O : List Nat, (∀ p ∈ O, g p = f p) → fw g O = fw f O
  | [], _ => rfl
  | p :: O, h => by
    show wt_ (g p) + fw g O = wt_ (f p) + fw f O
    rw [h p List.mem_cons_self, fw_cg O (fun p' hp => h p' (List.mem_cons_of_mem _ hp))]
theorem fw_le {f : Nat → Int32} : ∀ O : List Nat, (∀ p ∈ O, ¬ f p = 1) → fw f O ≤ 2 * O.length
  | [], _ => Nat.zero_le _
  | p :: O, h => by
    have ih := fw_le (f := f) O (fun p' hp => h p' (List.mem_cons_of_mem _ hp))
    have h1 : wt_ (f p) ≤ 2 := by
      unfold wt_
      rw [if_neg (h p List.mem_cons_self)]
      split <;> decide
    show wt_ (f p) + fw f O ≤ 2 * (O.length + 1)
    omega
theorem fw_1 {f : Nat → Int32} : ∀ O : List Nat, (∀ p ∈ O, f p = 4 ∨ f p = 6 ∨ f p = 8) → fw f O = O.length
  | [], _ => rfl
  | p :: O, h => by
    have ih := fw_1 (f := f) O (fun p' hp => h p' (List.mem_cons_of_mem _ hp))
    have h1 : wt_ (f p) = 1 := by
      rcases h p List.mem_cons_self with e | e | e <;> rw [e] <;> decide
    show wt_ (f p) + fw f O = O.length + 1
    omega
/-- what x has sent to itself -/
def rs_O (s : rs_S) (x : Nat) (O : List Nat) : Prop := (∀ p ∈ O, s.2 30 p = nI x) ∧ (∀ p ∈ O.tail, ¬ s.2 31 p = 1) ∧ (O.length ≤ 9 ∨ ∀ p ∈ O, ¬ s.2 31 p = 1)
theorem O_nil : rs_O s x [] := ⟨(fun p hp => by cases hp), (fun p hp => by cases hp), Or.inl (by decide)⟩
/-- the messages L stay, and what else is kept through all -/
def rs_k (s s' : rs_S) (L : List Nat) : Prop := s'.2 1 = s.2 1 ∧ (∀ p ∈ L, ∀ u, 28 ≤ u → u ≤ 34 → s'.2 u p = s.2 u p) ∧ ∀ j, ¬ j = 28 → ¬ j = 30 → ¬ j = 41 → s'.1 j = s.1 j
theorem k_rf {L : List Nat} : rs_k s s L := ⟨rfl, fun _ _ _ _ _ => rfl, fun _ _ _ _ => rfl⟩
theorem k_tr {s1 s2 : rs_S} {L L' : List Nat} (h : rs_k s s1 L) (h' : rs_k s1 s2 L') (hL : ∀ p, p ∈ L → p ∈ L') : rs_k s s2 L :=
  ⟨h'.1.trans h.1, fun p hp u a b => (h'.2.1 p (hL p hp) u a b).trans (h.2.1 p hp u a b), fun j a b c => (h'.2.2 j a b c).trans (h.2.2 j a b c)⟩
/-- what a run of calls comes to: all own messages came -/
def rs_Fn (s : rs_S) (m : Nat) (W hd : List Nat) (s' : rs_S) : Prop := ∃ X : List Nat, rs_P s' (2 * m - 1) (W ++ X) [] hd ∧ rs_J s' m ∧ rs_V s' m ∧ rs_k s s' (W ++ hd)
def rs_rl (s s' : rs_S) (x : Nat) : Prop := s'.2 12 x = 0 ∨ (s'.2 19 = s.2 19 ∧ ¬ s.2 12 x = 0)
theorem rl_rf : rs_rl s s x := by
  by_cases h : s.2 12 x = 0
  · exact Or.inl h
  · exact Or.inr ⟨rfl, h⟩
theorem rl_tr {s1 s2 : rs_S} (h : rs_rl s s1 x) (h' : rs_rl s1 s2 x) : rs_rl s s2 x := by
  rcases h' with h' | ⟨a, b⟩
  · exact Or.inl h'
  · rcases h with h | ⟨c, d⟩
    · exact absurd h b
    · exact Or.inr ⟨a.trans c, d⟩
theorem R_inner {l2 : Option Value} (hm : m = 2 ∨ m = 3 ∨ m = 4 ∨ m = 5) (hx : x < m) (h8 : hd.length ≤ 8) (hQ : ∀ (s' : rs_S) (X : List Nat) (l3 l4 : Option Value), rs_P s' (2 * m - 1) (W ++ X) [] hd → rs_J s' m → rs_V s' m → rs_rl s0 s' x → rs_k s0 s' (W ++ hd) → mj_wp (tb ar) 107 (79, [some (.ref B), some (.int (nI x)), l2, l3, l4], [], rs_st ar B z q s') Q) : ∀ (N : Nat) (s : rs_S) (X O : List Nat) (l3 l4 : Option Value), fw (s.2 31) O ≤ N → rs_O s x O → rs_P s (2 * m - 1) (W ++ X) O hd → rs_J s m → rs_V s m → rs_rl s0 s x → rs_k s0 s (W ++ hd) → mj_wp (tb ar) 107 (6, [some (.ref B), some (.int (nI x)), l2, l3, l4], [], rs_st ar B z q s) Q := by
  intro N
  induction N with
  | zero =>
    intro s X O l3 l4 hN hO P J V hr hk
    cases O with
    | nil =>
      have h30 : s.1 30 = nI 0 := P.1.2.2.1
      have c1 : (0 : Int32) ≤ 0 := by decide
      simp only [r107_6, r107_7, r107_10, wo_nx, wo_ret, wo_ite, wo_call, bk_inl, mj_lda, mj_ldi, mj_sti, mj_sta, mj_b2, mj_br1, mj_br2, mj_brn, mj_ir, mj_rr, mj_nx, mj_gf, mj_k2, mj_rc, mj_dup, mj_inc, List.getElem?_cons_zero, List.getElem?_cons_succ, List.length_cons, List.length_nil, List.set_cons_succ, List.set_cons_zero, Nat.reduceAdd, Nat.reduceLT, if_true, if_false, mj_iif, decide_eq_true_eq, List.take_succ_cons, List.take_zero, List.reverse_cons, List.reverse_nil, List.nil_append, List.cons_append, List.drop_succ_cons, List.drop_zero, List.map_cons, List.map_nil, cat_i, cat_r, cat_n, Nat.reduceLeDiff, true_and, and_true, decide_true, Option.toList_some, Option.toList_none, and_self, Nat.le_refl, mj_il, mj_is, mj_zs, mj_pf, mj_fit, mj_vr, mj_zr, mj_dup2, mj_pop, Option.isSome_some, rs_cls, rs_u1, rs_u2, rs_w1, rs_w2, Nat.reduceEqDiff, reduceIte, rs_f0, rs_f1, rs_f2, rs_f3, rs_f4, rs_f5, rs_f6, rs_f7, rs_f8, rs_f9, rs_f10, rs_f11, rs_f12, rs_f13, rs_f14, rs_f15, rs_f16, rs_f17, rs_f18, rs_f19, rs_f20, rs_f21, rs_f22, rs_f23, rs_f24, rs_f25, rs_f26, rs_f27, rs_f28, rs_f29, rs_f30, rs_f31, rs_f32, rs_f33, rs_f34, rs_f35, rs_f36, rs_f37, rs_f38, rs_f39, rs_f40, rs_f41, rs_i1, rs_a1, rs_i2, rs_a2, rs_i3, rs_a3, rs_i4, rs_a4, rs_i5, rs_a5, rs_i6, rs_a6, rs_i7, rs_a7, rs_i8, rs_a8, rs_i9, rs_a9, rs_i10, rs_a10, rs_i11, rs_a11, rs_i12, rs_a12, rs_i13, rs_a13, rs_i14, rs_a14, rs_i15, rs_a15, rs_i16, rs_a16, rs_i17, rs_a17, rs_i18, rs_a18, rs_i19, rs_a19, rs_i20, rs_a20, rs_i21, rs_a21, rs_i22, rs_a22, rs_i23, rs_a23, rs_i24, rs_a24, rs_i25, rs_a25, rs_i26, rs_a26, rs_i27, rs_a27, rs_i28, rs_a28, rs_i29, rs_a29, rs_i30, rs_a30, rs_i31, rs_a31, rs_i32, rs_a32, rs_i33, rs_a33, rs_i34, rs_a34, rs_i35, rs_a35, rs_i36, rs_a36, rs_w_0, rs_w_1, rs_w_2, rs_w_28, rs_w_30, rs_w_41, mxl_87, mxl_88, mxl_89, mxl_90, mxl_91, mxl_92, mxl_93, mxl_94, mxl_95, mxl_96, mxl_97, mxl_98, mxl_99, mxl_100, mxl_101, mxl_102, mxl_103, mxl_104, mxl_105, mxl_106, mxl_107, mxl_108, mxl_109, mxl_110, mxl_111, mxl_112, mxl_113, mxl_114, mxl_115, mxl_116, mxl_117, mxl_118, mxl_119, mxl_120, mxl_121, mxl_122, mxl_123, mxl_124, mxl_125, mxl_126, mxl_127, mxl_128, mxl_129, mxl_130, mxl_131, mxl_132, mxl_133, mxl_134, mxl_135, mxl_136, mxl_137, h30, nI_0, c1]
      exact hQ s X l3 l4 P J V hr hk
    | cons p O =>
      have h1 := wt_pos (k := s.2 31 p)
      have h2 : wt_ (s.2 31 p) + fw (s.2 31) O ≤ 0 := hN
      omega
  | succ N ih =>
    intro s X O l3 l4 hN hO P J V hr hk
    cases O with
    | nil =>
      have h30 : s.1 30 = nI 0 := P.1.2.2.1
      have c1 : (0 : Int32) ≤ 0 := by decide
      simp only [r107_6, r107_7, r107_10, wo_nx, wo_ret, wo_ite, wo_call, bk_inl, mj_lda, mj_ldi, mj_sti, mj_sta, mj_b2, mj_br1, mj_br2, mj_brn, mj_ir, mj_rr, mj_nx, mj_gf, mj_k2, mj_rc, mj_dup, mj_inc, List.getElem?_cons_zero, List.getElem?_cons_succ, List.length_cons, List.length_nil, List.set_cons_succ, List.set_cons_zero, Nat.reduceAdd, Nat.reduceLT, if_true, if_false, mj_iif, decide_eq_true_eq, List.take_succ_cons, List.take_zero, List.reverse_cons, List.reverse_nil, List.nil_append, List.cons_append, List.drop_succ_cons, List.drop_zero, List.map_cons, List.map_nil, cat_i, cat_r, cat_n, Nat.reduceLeDiff, true_and, and_true, decide_true, Option.toList_some, Option.toList_none, and_self, Nat.le_refl, mj_il, mj_is, mj_zs, mj_pf, mj_fit, mj_vr, mj_zr, mj_dup2, mj_pop, Option.isSome_some, rs_cls, rs_u1, rs_u2, rs_w1, rs_w2, Nat.reduceEqDiff, reduceIte, rs_f0, rs_f1, rs_f2, rs_f3, rs_f4, rs_f5, rs_f6, rs_f7, rs_f8, rs_f9, rs_f10, rs_f11, rs_f12, rs_f13, rs_f14, rs_f15, rs_f16, rs_f17, rs_f18, rs_f19, rs_f20, rs_f21, rs_f22, rs_f23, rs_f24, rs_f25, rs_f26, rs_f27, rs_f28, rs_f29, rs_f30, rs_f31, rs_f32, rs_f33, rs_f34, rs_f35, rs_f36, rs_f37, rs_f38, rs_f39, rs_f40, rs_f41, rs_i1, rs_a1, rs_i2, rs_a2, rs_i3, rs_a3, rs_i4, rs_a4, rs_i5, rs_a5, rs_i6, rs_a6, rs_i7, rs_a7, rs_i8, rs_a8, rs_i9, rs_a9, rs_i10, rs_a10, rs_i11, rs_a11, rs_i12, rs_a12, rs_i13, rs_a13, rs_i14, rs_a14, rs_i15, rs_a15, rs_i16, rs_a16, rs_i17, rs_a17, rs_i18, rs_a18, rs_i19, rs_a19, rs_i20, rs_a20, rs_i21, rs_a21, rs_i22, rs_a22, rs_i23, rs_a23, rs_i24, rs_a24, rs_i25, rs_a25, rs_i26, rs_a26, rs_i27, rs_a27, rs_i28, rs_a28, rs_i29, rs_a29, rs_i30, rs_a30, rs_i31, rs_a31, rs_i32, rs_a32, rs_i33, rs_a33, rs_i34, rs_a34, rs_i35, rs_a35, rs_i36, rs_a36, rs_w_0, rs_w_1, rs_w_2, rs_w_28, rs_w_30, rs_w_41, mxl_87, mxl_88, mxl_89, mxl_90, mxl_91, mxl_92, mxl_93, mxl_94, mxl_95, mxl_96, mxl_97, mxl_98, mxl_99, mxl_100, mxl_101, mxl_102, mxl_103, mxl_104, mxl_105, mxl_106, mxl_107, mxl_108, mxl_109, mxl_110, mxl_111, mxl_112, mxl_113, mxl_114, mxl_115, mxl_116, mxl_117, mxl_118, mxl_119, mxl_120, mxl_121, mxl_122, mxl_123, mxl_124, mxl_125, mxl_126, mxl_127, mxl_128, mxl_129, mxl_130, mxl_131, mxl_132, mxl_133, mxl_134, mxl_135, mxl_136, mxl_137, h30, nI_0, c1]
      exact hQ s X l3 l4 P J V hr hk
    | cons p O =>
      have hN' : wt_ (s.2 31 p) + fw (s.2 31) O ≤ N + 1 := hN
      have hpm : p ∈ W ++ X ++ p :: O ++ hd := List.mem_append_left _ (List.mem_append_right _ List.mem_cons_self)
      obtain ⟨hp4, -, a, b, h29, h30, ha, hb, ⟨bl, hbl, h32⟩, t, ht, h33, ht9⟩ := P.2.2.2.2.1 p hpm
      have e30 : s.2 30 p = nI x := hO.1 p List.mem_cons_self
      have e29 : s.2 29 p = nI x := (P.2.2.2.2.2.2.2 p List.mem_cons_self).trans e30
      have hOl : (p :: O).length ≤ 110 := P.1.2.2.2
      have hOl' : O.length + 1 ≤ 110 := hOl
      refine R_own_take P ?_
      have P1 := P_pop P
      have J1 : rs_J (rs_u (rs_w s 30 (nI O.length)) 27 (rs_to (s.2 27) 0 O.length)) m := J_kept J rfl rfl (fun u hu => by rcases hu with rfl | rfl | rfl | rfl | rfl | rfl | rfl | rfl <;> rfl)
      have em : ∀ u, 28 ≤ u → u ≤ 34 → (rs_u (rs_w s 30 (nI O.length)) 27 (rs_to (s.2 27) 0 O.length)).2 u = s.2 u := fun u a b => by
        show (if u = 27 then _ else s.2 u) = s.2 u
        rw [if_neg (by omega)]
      have e1 : (rs_u (rs_w s 30 (nI O.length)) 27 (rs_to (s.2 27) 0 O.length)).2 1 = s.2 1 ∧ (rs_u (rs_w s 30 (nI O.length)) 27 (rs_to (s.2 27) 0 O.length)).2 9 = s.2 9 ∧ (rs_u (rs_w s 30 (nI O.length)) 27 (rs_to (s.2 27) 0 O.length)).2 10 = s.2 10 ∧ (rs_u (rs_w s 30 (nI O.length)) 27 (rs_to (s.2 27) 0 O.length)).2 12 = s.2 12 ∧ (rs_u (rs_w s 30 (nI O.length)) 27 (rs_to (s.2 27) 0 O.length)).2 19 = s.2 19 := ⟨rfl, rfl, rfl, rfl, rfl⟩
      have ef : ∀ j, ¬ j = 30 → (rs_u (rs_w s 30 (nI O.length)) 27 (rs_to (s.2 27) 0 O.length)).1 j = s.1 j := fun j h => upd_ne h
      generalize rs_u (rs_w s 30 (nI O.length)) 27 (rs_to (s.2 27) 0 O.length) = s1 at P1 J1 em e1 ef ⊢
      obtain ⟨e1, e9, e10, e12, e19⟩ := e1
      simp only [r107_64, r107_65, r107_66, wo_nx, wo_ret, wo_ite, wo_call, bk_inl, mj_lda, mj_ldi, mj_sti, mj_sta, mj_b2, mj_br1, mj_br2, mj_brn, mj_ir, mj_rr, mj_nx, mj_gf, mj_k2, mj_rc, mj_dup, mj_inc, List.getElem?_cons_zero, List.getElem?_cons_succ, List.length_cons, List.length_nil, List.set_cons_succ, List.set_cons_zero, Nat.reduceAdd, Nat.reduceLT, if_true, if_false, mj_iif, decide_eq_true_eq, List.take_succ_cons, List.take_zero, List.reverse_cons, List.reverse_nil, List.nil_append, List.cons_append, List.drop_succ_cons, List.drop_zero, List.map_cons, List.map_nil, cat_i, cat_r, cat_n, Nat.reduceLeDiff, true_and, and_true, decide_true, Option.toList_some, Option.toList_none, and_self, Nat.le_refl, mj_il, mj_is, mj_zs, mj_pf, mj_fit, mj_vr, mj_zr, mj_dup2, mj_pop, Option.isSome_some, rs_cls, rs_u1, rs_u2, rs_w1, rs_w2, Nat.reduceEqDiff, reduceIte, rs_f0, rs_f1, rs_f2, rs_f3, rs_f4, rs_f5, rs_f6, rs_f7, rs_f8, rs_f9, rs_f10, rs_f11, rs_f12, rs_f13, rs_f14, rs_f15, rs_f16, rs_f17, rs_f18, rs_f19, rs_f20, rs_f21, rs_f22, rs_f23, rs_f24, rs_f25, rs_f26, rs_f27, rs_f28, rs_f29, rs_f30, rs_f31, rs_f32, rs_f33, rs_f34, rs_f35, rs_f36, rs_f37, rs_f38, rs_f39, rs_f40, rs_f41, rs_i1, rs_a1, rs_i2, rs_a2, rs_i3, rs_a3, rs_i4, rs_a4, rs_i5, rs_a5, rs_i6, rs_a6, rs_i7, rs_a7, rs_i8, rs_a8, rs_i9, rs_a9, rs_i10, rs_a10, rs_i11, rs_a11, rs_i12, rs_a12, rs_i13, rs_a13, rs_i14, rs_a14, rs_i15, rs_a15, rs_i16, rs_a16, rs_i17, rs_a17, rs_i18, rs_a18, rs_i19, rs_a19, rs_i20, rs_a20, rs_i21, rs_a21, rs_i22, rs_a22, rs_i23, rs_a23, rs_i24, rs_a24, rs_i25, rs_a25, rs_i26, rs_a26, rs_i27, rs_a27, rs_i28, rs_a28, rs_i29, rs_a29, rs_i30, rs_a30, rs_i31, rs_a31, rs_i32, rs_a32, rs_i33, rs_a33, rs_i34, rs_a34, rs_i35, rs_a35, rs_i36, rs_a36, rs_w_0, rs_w_1, rs_w_2, rs_w_28, rs_w_30, rs_w_41, mxl_87, mxl_88, mxl_89, mxl_90, mxl_91, mxl_92, mxl_93, mxl_94, mxl_95, mxl_96, mxl_97, mxl_98, mxl_99, mxl_100, mxl_101, mxl_102, mxl_103, mxl_104, mxl_105, mxl_106, mxl_107, mxl_108, mxl_109, mxl_110, mxl_111, mxl_112, mxl_113, mxl_114, mxl_115, mxl_116, mxl_117, mxl_118, mxl_119, mxl_120, mxl_121, mxl_122, mxl_123, mxl_124, mxl_125, mxl_126, mxl_127, mxl_128, mxl_129, mxl_130, mxl_131, mxl_132, mxl_133, mxl_134, mxl_135, mxl_136, mxl_137]
      have hO1 : s.2 31 p = 1 → x = x → O.length + (100 - t) < 110 := fun hk1 _ => by
        rcases hO.2.2 with h | h
        · have : O.length + 1 ≤ 9 := h
          omega
        · exact absurd hk1 (h p List.mem_cons_self)
      refine R_handle (hd := p :: hd) (O := O) (k := s.2 31 p) (x := x) (y := x) (bl := bl) (t := t) hm (by omega) (by omega) hp4 (show hd.length + 1 ≤ 9 by omega) hbl ht (by rw [em 29 (by decide) (by decide)]; exact e29) (by rw [em 30 (by decide) (by decide)]; exact e30) (by rw [em 31 (by decide) (by decide)]) (by rw [em 32 (by decide) (by decide)]; exact h32) (by rw [em 33 (by decide) (by decide)]; exact h33) ht9 P1 J1 (by omega) hO1 (fun s2 h => ?_)
      obtain ⟨X', O2, P2, J2, ⟨a1, a9, a10⟩, km, ⟨ho1, ho2⟩, hkk, hrr, hf⟩ := h
      have hixr : mj_ix (nI p) 420 = true := ix_of hp4 (by decide)
      have hclr : (nI p).toNatClampNeg = p := nI_clamp (by omega)
      simp only [r107_69, r107_70, r107_73, r107_74, r107_75, r107_76, wo_nx, wo_ret, wo_ite, wo_call, bk_inl, mj_lda, mj_ldi, mj_sti, mj_sta, mj_b2, mj_br1, mj_br2, mj_brn, mj_ir, mj_rr, mj_nx, mj_gf, mj_k2, mj_rc, mj_dup, mj_inc, List.getElem?_cons_zero, List.getElem?_cons_succ, List.length_cons, List.length_nil, List.set_cons_succ, List.set_cons_zero, Nat.reduceAdd, Nat.reduceLT, if_true, if_false, mj_iif, decide_eq_true_eq, List.take_succ_cons, List.take_zero, List.reverse_cons, List.reverse_nil, List.nil_append, List.cons_append, List.drop_succ_cons, List.drop_zero, List.map_cons, List.map_nil, cat_i, cat_r, cat_n, Nat.reduceLeDiff, true_and, and_true, decide_true, Option.toList_some, Option.toList_none, and_self, Nat.le_refl, mj_il, mj_is, mj_zs, mj_pf, mj_fit, mj_vr, mj_zr, mj_dup2, mj_pop, Option.isSome_some, rs_cls, rs_u1, rs_u2, rs_w1, rs_w2, Nat.reduceEqDiff, reduceIte, rs_f0, rs_f1, rs_f2, rs_f3, rs_f4, rs_f5, rs_f6, rs_f7, rs_f8, rs_f9, rs_f10, rs_f11, rs_f12, rs_f13, rs_f14, rs_f15, rs_f16, rs_f17, rs_f18, rs_f19, rs_f20, rs_f21, rs_f22, rs_f23, rs_f24, rs_f25, rs_f26, rs_f27, rs_f28, rs_f29, rs_f30, rs_f31, rs_f32, rs_f33, rs_f34, rs_f35, rs_f36, rs_f37, rs_f38, rs_f39, rs_f40, rs_f41, rs_i1, rs_a1, rs_i2, rs_a2, rs_i3, rs_a3, rs_i4, rs_a4, rs_i5, rs_a5, rs_i6, rs_a6, rs_i7, rs_a7, rs_i8, rs_a8, rs_i9, rs_a9, rs_i10, rs_a10, rs_i11, rs_a11, rs_i12, rs_a12, rs_i13, rs_a13, rs_i14, rs_a14, rs_i15, rs_a15, rs_i16, rs_a16, rs_i17, rs_a17, rs_i18, rs_a18, rs_i19, rs_a19, rs_i20, rs_a20, rs_i21, rs_a21, rs_i22, rs_a22, rs_i23, rs_a23, rs_i24, rs_a24, rs_i25, rs_a25, rs_i26, rs_a26, rs_i27, rs_a27, rs_i28, rs_a28, rs_i29, rs_a29, rs_i30, rs_a30, rs_i31, rs_a31, rs_i32, rs_a32, rs_i33, rs_a33, rs_i34, rs_a34, rs_i35, rs_a35, rs_i36, rs_a36, rs_w_0, rs_w_1, rs_w_2, rs_w_28, rs_w_30, rs_w_41, mxl_87, mxl_88, mxl_89, mxl_90, mxl_91, mxl_92, mxl_93, mxl_94, mxl_95, mxl_96, mxl_97, mxl_98, mxl_99, mxl_100, mxl_101, mxl_102, mxl_103, mxl_104, mxl_105, mxl_106, mxl_107, mxl_108, mxl_109, mxl_110, mxl_111, mxl_112, mxl_113, mxl_114, mxl_115, mxl_116, mxl_117, mxl_118, mxl_119, mxl_120, mxl_121, mxl_122, mxl_123, mxl_124, mxl_125, mxl_126, mxl_127, mxl_128, mxl_129, mxl_130, mxl_131, mxl_132, mxl_133, mxl_134, mxl_135, mxl_136, mxl_137, hixr, hclr, or_true, true_or]
      have hpp : List.Perm (W ++ X ++ X' ++ (O ++ O2) ++ p :: hd) (p :: (W ++ X ++ X' ++ (O ++ O2) ++ hd)) := List.perm_middle
      have hnp := (List.nodup_cons.mp (hpp.nodup_iff.mp P2.2.2.2.1)).1
      have kO : ∀ p' ∈ O, ∀ u, 28 ≤ u → u ≤ 34 → s2.2 u p' = s.2 u p' := fun p' hp' u a b => by
        rw [km p' (List.mem_append_left _ (List.mem_append_right _ hp')) u a b, em u a b]
      have hno : ∀ p' ∈ O ++ O2, ¬ s2.2 31 p' = 1 := fun p' hp' => by
        rcases List.mem_append.mp hp' with h | h
        · rw [kO p' h 31 (by decide) (by decide)]
          exact hO.2.1 p' h
        · rcases hkk with ⟨-, -, h'⟩ | ⟨-, -, h'⟩ | h'
          · exact h' p' h
          · intro q1
            have := h' p' h
            rw [q1] at this
            exact absurd this (by decide)
          · rw [h'] at h
            cases h
      have hfw : fw (s2.2 31) (O ++ O2) ≤ N := by
        have f1 : fw (s2.2 31) O = fw (s.2 31) O := fw_cg O (fun p' hp' => kO p' hp' 31 (by decide) (by decide))
        have f2 : fw (s2.2 31) O2 + 1 ≤ wt_ (s.2 31 p) := by
          rcases hkk with ⟨h1, h2, h3⟩ | ⟨h1, h2, h3⟩ | h'
          · have := fw_le (f := s2.2 31) O2 h3
            rw [h1]
            show _ ≤ 300
            omega
          · rw [fw_1 (f := s2.2 31) O2 h3]
            have : wt_ (s.2 31 p) = 2 := by
              rcases h1 with h1 | h1 <;> rw [h1] <;> decide
            omega
          · rw [h']
            exact wt_pos
        rw [fw_ap]
        omega
      refine ih _ (X ++ X') (O ++ O2) _ _ hfw ⟨fun p' hp' => ?_, fun p' hp' => hno p' (List.mem_of_mem_tail hp'), Or.inr hno⟩ (by rw [← List.append_assoc]; exact P_free P2) (J_kept J2 rfl rfl (fun u hu => by rcases hu with rfl | rfl | rfl | rfl | rfl | rfl | rfl | rfl <;> rfl)) (V_kept V (a9.trans e9) (a10.trans e10)) ?_ (k_tr hk ⟨a1.trans e1, fun p' hp' u a b => ?_, fun j a b c => (hf j a b c).trans (ef j b)⟩ (fun p' h => h))
      · show s2.2 30 p' = nI x
        rcases List.mem_append.mp hp' with h | h
        · rw [kO p' h 30 (by decide) (by decide)]
          exact hO.1 p' (List.mem_cons_of_mem _ h)
        · exact ho2 p' h
      · refine rl_tr hr ?_
        have h := hrr hx
        rw [e12, e19] at h
        exact h
      · have hp'' : p' ∈ W ++ X ++ O ++ p :: hd := by
          rcases List.mem_append.mp hp' with h | h
          · exact List.mem_append_left _ (List.mem_append_left _ (List.mem_append_left _ h))
          · exact List.mem_append_right _ (List.mem_cons_of_mem _ h)
        have hne : ¬ p' = p := fun e => hnp (by
          rw [← e]
          rcases List.mem_append.mp hp' with h | h
          · exact List.mem_append_left _ (List.mem_append_left _ (List.mem_append_left _ (List.mem_append_left _ h)))
          · exact List.mem_append_right _ h)
        have h2 : s2.2 u p' = s.2 u p' := by rw [km p' hp'' u a b, em u a b]
        show (if u = 28 then upd (s2.2 28) p 0 else s2.2 u) p' = s.2 u p'
        by_cases hu : u = 28
        · subst hu
          rw [if_pos rfl, upd_ne hne]
          exact h2
        · rw [if_neg hu]
          exact h2
theorem R_fin_loop (hm : m = 2 ∨ m = 3 ∨ m = 4 ∨ m = 5) (hx : x < m) (h8 : hd.length ≤ 8) (hQ : ∀ s', rs_Fn s0 m W hd s' → Q (.inl none) (rs_st ar B z q s')) : ∀ (N : Nat) (s : rs_S) (X O : List Nat) (l3 l4 : Option Value), cu s x ≤ N → rs_O s x O → rs_P s (2 * m - 1) (W ++ X) O hd → rs_J s m → rs_V s m → rs_k s0 s (W ++ hd) → mj_wp (tb ar) 107 (2, [some (.ref B), some (.int (nI x)), some (.int 1), l3, l4], [], rs_st ar B z q s) Q := by
  intro N
  induction N using Nat.strongRecOn with
  | ind N ih =>
    intro s X O l3 l4 hN hO P J V hk
    simp only [r107_2, r107_3, wo_nx, wo_ret, wo_ite, wo_call, bk_inl, mj_lda, mj_ldi, mj_sti, mj_sta, mj_b2, mj_br1, mj_br2, mj_brn, mj_ir, mj_rr, mj_nx, mj_gf, mj_k2, mj_rc, mj_dup, mj_inc, List.getElem?_cons_zero, List.getElem?_cons_succ, List.length_cons, List.length_nil, List.set_cons_succ, List.set_cons_zero, Nat.reduceAdd, Nat.reduceLT, if_true, if_false, mj_iif, decide_eq_true_eq, List.take_succ_cons, List.take_zero, List.reverse_cons, List.reverse_nil, List.nil_append, List.cons_append, List.drop_succ_cons, List.drop_zero, List.map_cons, List.map_nil, cat_i, cat_r, cat_n, Nat.reduceLeDiff, true_and, and_true, decide_true, Option.toList_some, Option.toList_none, and_self, Nat.le_refl, mj_il, mj_is, mj_zs, mj_pf, mj_fit, mj_vr, mj_zr, mj_dup2, mj_pop, Option.isSome_some, rs_cls, rs_u1, rs_u2, rs_w1, rs_w2, Nat.reduceEqDiff, reduceIte, rs_f0, rs_f1, rs_f2, rs_f3, rs_f4, rs_f5, rs_f6, rs_f7, rs_f8, rs_f9, rs_f10, rs_f11, rs_f12, rs_f13, rs_f14, rs_f15, rs_f16, rs_f17, rs_f18, rs_f19, rs_f20, rs_f21, rs_f22, rs_f23, rs_f24, rs_f25, rs_f26, rs_f27, rs_f28, rs_f29, rs_f30, rs_f31, rs_f32, rs_f33, rs_f34, rs_f35, rs_f36, rs_f37, rs_f38, rs_f39, rs_f40, rs_f41, rs_i1, rs_a1, rs_i2, rs_a2, rs_i3, rs_a3, rs_i4, rs_a4, rs_i5, rs_a5, rs_i6, rs_a6, rs_i7, rs_a7, rs_i8, rs_a8, rs_i9, rs_a9, rs_i10, rs_a10, rs_i11, rs_a11, rs_i12, rs_a12, rs_i13, rs_a13, rs_i14, rs_a14, rs_i15, rs_a15, rs_i16, rs_a16, rs_i17, rs_a17, rs_i18, rs_a18, rs_i19, rs_a19, rs_i20, rs_a20, rs_i21, rs_a21, rs_i22, rs_a22, rs_i23, rs_a23, rs_i24, rs_a24, rs_i25, rs_a25, rs_i26, rs_a26, rs_i27, rs_a27, rs_i28, rs_a28, rs_i29, rs_a29, rs_i30, rs_a30, rs_i31, rs_a31, rs_i32, rs_a32, rs_i33, rs_a33, rs_i34, rs_a34, rs_i35, rs_a35, rs_i36, rs_a36, rs_w_0, rs_w_1, rs_w_2, rs_w_28, rs_w_30, rs_w_41, mxl_87, mxl_88, mxl_89, mxl_90, mxl_91, mxl_92, mxl_93, mxl_94, mxl_95, mxl_96, mxl_97, mxl_98, mxl_99, mxl_100, mxl_101, mxl_102, mxl_103, mxl_104, mxl_105, mxl_106, mxl_107, mxl_108, mxl_109, mxl_110, mxl_111, mxl_112, mxl_113, mxl_114, mxl_115, mxl_116, mxl_117, mxl_118, mxl_119, mxl_120, mxl_121, mxl_122, mxl_123, mxl_124, mxl_125, mxl_126, mxl_127, mxl_128, mxl_129, mxl_130, mxl_131, mxl_132, mxl_133, mxl_134, mxl_135, mxl_136, mxl_137, k_10]
    have hsub : ∀ p, p ∈ W ++ hd → p ∈ W ++ X ++ hd := fun p hp => by
      rcases List.mem_append.mp hp with h | h
      · exact List.mem_append_left _ (List.mem_append_left _ h)
      · exact List.mem_append_right _ h
    refine R_inner (s0 := s) (W := W ++ X) hm hx h8 (fun s1 X1 l3 l4 P1 J1 V1 hr1 hk1 => ?_) (fw (s.2 31) O) s [] O _ _ (Nat.le_refl _) hO (by rw [List.append_nil]; exact P) J V rl_rf k_rf
    have c2 : ¬ nI m ≤ nI x := nI_ge hx (by omega)
    have j1 : s1.1 1 = nI m := J1.1.1
    have hk01 := k_tr hk hk1 hsub
    have c0 : (0 : Int32) ≤ 0 := by decide
    by_cases hr : s1.2 12 x = 2
    · have hcu : cu s1 x = cu s x := by
        rcases hr1 with h | ⟨h, -⟩
        · rw [hr] at h
          exact absurd h (by decide)
        · unfold cu
          rw [h]
      simp only [r107_79, r107_80, r107_81, r107_84, r107_87, r107_88, r107_89, wo_nx, wo_ret, wo_ite, wo_call, bk_inl, mj_lda, mj_ldi, mj_sti, mj_sta, mj_b2, mj_br1, mj_br2, mj_brn, mj_ir, mj_rr, mj_nx, mj_gf, mj_k2, mj_rc, mj_dup, mj_inc, List.getElem?_cons_zero, List.getElem?_cons_succ, List.length_cons, List.length_nil, List.set_cons_succ, List.set_cons_zero, Nat.reduceAdd, Nat.reduceLT, if_true, if_false, mj_iif, decide_eq_true_eq, List.take_succ_cons, List.take_zero, List.reverse_cons, List.reverse_nil, List.nil_append, List.cons_append, List.drop_succ_cons, List.drop_zero, List.map_cons, List.map_nil, cat_i, cat_r, cat_n, Nat.reduceLeDiff, true_and, and_true, decide_true, Option.toList_some, Option.toList_none, and_self, Nat.le_refl, mj_il, mj_is, mj_zs, mj_pf, mj_fit, mj_vr, mj_zr, mj_dup2, mj_pop, Option.isSome_some, rs_cls, rs_u1, rs_u2, rs_w1, rs_w2, Nat.reduceEqDiff, reduceIte, rs_f0, rs_f1, rs_f2, rs_f3, rs_f4, rs_f5, rs_f6, rs_f7, rs_f8, rs_f9, rs_f10, rs_f11, rs_f12, rs_f13, rs_f14, rs_f15, rs_f16, rs_f17, rs_f18, rs_f19, rs_f20, rs_f21, rs_f22, rs_f23, rs_f24, rs_f25, rs_f26, rs_f27, rs_f28, rs_f29, rs_f30, rs_f31, rs_f32, rs_f33, rs_f34, rs_f35, rs_f36, rs_f37, rs_f38, rs_f39, rs_f40, rs_f41, rs_i1, rs_a1, rs_i2, rs_a2, rs_i3, rs_a3, rs_i4, rs_a4, rs_i5, rs_a5, rs_i6, rs_a6, rs_i7, rs_a7, rs_i8, rs_a8, rs_i9, rs_a9, rs_i10, rs_a10, rs_i11, rs_a11, rs_i12, rs_a12, rs_i13, rs_a13, rs_i14, rs_a14, rs_i15, rs_a15, rs_i16, rs_a16, rs_i17, rs_a17, rs_i18, rs_a18, rs_i19, rs_a19, rs_i20, rs_a20, rs_i21, rs_a21, rs_i22, rs_a22, rs_i23, rs_a23, rs_i24, rs_a24, rs_i25, rs_a25, rs_i26, rs_a26, rs_i27, rs_a27, rs_i28, rs_a28, rs_i29, rs_a29, rs_i30, rs_a30, rs_i31, rs_a31, rs_i32, rs_a32, rs_i33, rs_a33, rs_i34, rs_a34, rs_i35, rs_a35, rs_i36, rs_a36, rs_w_0, rs_w_1, rs_w_2, rs_w_28, rs_w_30, rs_w_41, mxl_87, mxl_88, mxl_89, mxl_90, mxl_91, mxl_92, mxl_93, mxl_94, mxl_95, mxl_96, mxl_97, mxl_98, mxl_99, mxl_100, mxl_101, mxl_102, mxl_103, mxl_104, mxl_105, mxl_106, mxl_107, mxl_108, mxl_109, mxl_110, mxl_111, mxl_112, mxl_113, mxl_114, mxl_115, mxl_116, mxl_117, mxl_118, mxl_119, mxl_120, mxl_121, mxl_122, mxl_123, mxl_124, mxl_125, mxl_126, mxl_127, mxl_128, mxl_129, mxl_130, mxl_131, mxl_132, mxl_133, mxl_134, mxl_135, mxl_136, mxl_137, j1, c2]
      have hc1 := cu_le (s := s1) (x := x)
      refine R_goOn (O := []) (by omega) hx (by omega) (show 0 + cu s1 x < 110 by omega) P1 J1 V1 (fun s2 hG => ?_)
      obtain ⟨X2, O2, P2, J2, V2, g1, g12, ⟨hc, hkk⟩, gm, gi⟩ := hG
      have P2' : rs_P s2 (2 * m - 1) (W ++ (X ++ X1 ++ X2)) O2 hd := by
        have h := P2
        rw [List.nil_append] at h
        rw [← List.append_assoc, ← List.append_assoc]
        exact h
      have hk02 : rs_k s0 s2 (W ++ hd) := by
        refine k_tr hk01 ⟨g1, gm, gi⟩ (fun p hp => ?_)
        rcases List.mem_append.mp hp with h | h
        · exact List.mem_append_left _ (List.mem_append_left _ (List.mem_append_left _ (List.mem_append_left _ h)))
        · exact List.mem_append_right _ h
      cases O2 with
      | nil =>
        have h30 : s2.1 30 = nI 0 := P2'.1.2.2.1
        simp only [r107_92, r107_93, r107_96, r107_103, r107_104, r107_105, r107_2, r107_3, r107_108, wo_nx, wo_ret, wo_ite, wo_call, bk_inl, mj_lda, mj_ldi, mj_sti, mj_sta, mj_b2, mj_br1, mj_br2, mj_brn, mj_ir, mj_rr, mj_nx, mj_gf, mj_k2, mj_rc, mj_dup, mj_inc, List.getElem?_cons_zero, List.getElem?_cons_succ, List.length_cons, List.length_nil, List.set_cons_succ, List.set_cons_zero, Nat.reduceAdd, Nat.reduceLT, if_true, if_false, mj_iif, decide_eq_true_eq, List.take_succ_cons, List.take_zero, List.reverse_cons, List.reverse_nil, List.nil_append, List.cons_append, List.drop_succ_cons, List.drop_zero, List.map_cons, List.map_nil, cat_i, cat_r, cat_n, Nat.reduceLeDiff, true_and, and_true, decide_true, Option.toList_some, Option.toList_none, and_self, Nat.le_refl, mj_il, mj_is, mj_zs, mj_pf, mj_fit, mj_vr, mj_zr, mj_dup2, mj_pop, Option.isSome_some, rs_cls, rs_u1, rs_u2, rs_w1, rs_w2, Nat.reduceEqDiff, reduceIte, rs_f0, rs_f1, rs_f2, rs_f3, rs_f4, rs_f5, rs_f6, rs_f7, rs_f8, rs_f9, rs_f10, rs_f11, rs_f12, rs_f13, rs_f14, rs_f15, rs_f16, rs_f17, rs_f18, rs_f19, rs_f20, rs_f21, rs_f22, rs_f23, rs_f24, rs_f25, rs_f26, rs_f27, rs_f28, rs_f29, rs_f30, rs_f31, rs_f32, rs_f33, rs_f34, rs_f35, rs_f36, rs_f37, rs_f38, rs_f39, rs_f40, rs_f41, rs_i1, rs_a1, rs_i2, rs_a2, rs_i3, rs_a3, rs_i4, rs_a4, rs_i5, rs_a5, rs_i6, rs_a6, rs_i7, rs_a7, rs_i8, rs_a8, rs_i9, rs_a9, rs_i10, rs_a10, rs_i11, rs_a11, rs_i12, rs_a12, rs_i13, rs_a13, rs_i14, rs_a14, rs_i15, rs_a15, rs_i16, rs_a16, rs_i17, rs_a17, rs_i18, rs_a18, rs_i19, rs_a19, rs_i20, rs_a20, rs_i21, rs_a21, rs_i22, rs_a22, rs_i23, rs_a23, rs_i24, rs_a24, rs_i25, rs_a25, rs_i26, rs_a26, rs_i27, rs_a27, rs_i28, rs_a28, rs_i29, rs_a29, rs_i30, rs_a30, rs_i31, rs_a31, rs_i32, rs_a32, rs_i33, rs_a33, rs_i34, rs_a34, rs_i35, rs_a35, rs_i36, rs_a36, rs_w_0, rs_w_1, rs_w_2, rs_w_28, rs_w_30, rs_w_41, mxl_87, mxl_88, mxl_89, mxl_90, mxl_91, mxl_92, mxl_93, mxl_94, mxl_95, mxl_96, mxl_97, mxl_98, mxl_99, mxl_100, mxl_101, mxl_102, mxl_103, mxl_104, mxl_105, mxl_106, mxl_107, mxl_108, mxl_109, mxl_110, mxl_111, mxl_112, mxl_113, mxl_114, mxl_115, mxl_116, mxl_117, mxl_118, mxl_119, mxl_120, mxl_121, mxl_122, mxl_123, mxl_124, mxl_125, mxl_126, mxl_127, mxl_128, mxl_129, mxl_130, mxl_131, mxl_132, mxl_133, mxl_134, mxl_135, mxl_136, mxl_137, h30, nI_0, c0]
        exact hQ s2 ⟨_, P2', J2, V2, hk02⟩
      | cons p O2 =>
        have h30 : s2.1 30 = nI (O2.length + 1) := P2'.1.2.2.1
        have hl : O2.length + 1 ≤ 110 := P2'.1.2.2.2
        have c1 : ¬ nI (O2.length + 1) ≤ 0 := by
          rw [← nI_0]
          exact nI_ge (by omega) (by omega)
        have hc' : O2.length + 1 + cu s2 x ≤ cu s1 x := hc
        have hno : ∀ p' ∈ p :: O2, ¬ s2.2 31 p' = 1 := fun p' hp' => by
          rw [(hkk p' hp').1]
          decide
        simp only [r107_92, r107_93, r107_96, r107_99, r107_100, r107_104, r107_105, wo_nx, wo_ret, wo_ite, wo_call, bk_inl, mj_lda, mj_ldi, mj_sti, mj_sta, mj_b2, mj_br1, mj_br2, mj_brn, mj_ir, mj_rr, mj_nx, mj_gf, mj_k2, mj_rc, mj_dup, mj_inc, List.getElem?_cons_zero, List.getElem?_cons_succ, List.length_cons, List.length_nil, List.set_cons_succ, List.set_cons_zero, Nat.reduceAdd, Nat.reduceLT, if_true, if_false, mj_iif, decide_eq_true_eq, List.take_succ_cons, List.take_zero, List.reverse_cons, List.reverse_nil, List.nil_append, List.cons_append, List.drop_succ_cons, List.drop_zero, List.map_cons, List.map_nil, cat_i, cat_r, cat_n, Nat.reduceLeDiff, true_and, and_true, decide_true, Option.toList_some, Option.toList_none, and_self, Nat.le_refl, mj_il, mj_is, mj_zs, mj_pf, mj_fit, mj_vr, mj_zr, mj_dup2, mj_pop, Option.isSome_some, rs_cls, rs_u1, rs_u2, rs_w1, rs_w2, Nat.reduceEqDiff, reduceIte, rs_f0, rs_f1, rs_f2, rs_f3, rs_f4, rs_f5, rs_f6, rs_f7, rs_f8, rs_f9, rs_f10, rs_f11, rs_f12, rs_f13, rs_f14, rs_f15, rs_f16, rs_f17, rs_f18, rs_f19, rs_f20, rs_f21, rs_f22, rs_f23, rs_f24, rs_f25, rs_f26, rs_f27, rs_f28, rs_f29, rs_f30, rs_f31, rs_f32, rs_f33, rs_f34, rs_f35, rs_f36, rs_f37, rs_f38, rs_f39, rs_f40, rs_f41, rs_i1, rs_a1, rs_i2, rs_a2, rs_i3, rs_a3, rs_i4, rs_a4, rs_i5, rs_a5, rs_i6, rs_a6, rs_i7, rs_a7, rs_i8, rs_a8, rs_i9, rs_a9, rs_i10, rs_a10, rs_i11, rs_a11, rs_i12, rs_a12, rs_i13, rs_a13, rs_i14, rs_a14, rs_i15, rs_a15, rs_i16, rs_a16, rs_i17, rs_a17, rs_i18, rs_a18, rs_i19, rs_a19, rs_i20, rs_a20, rs_i21, rs_a21, rs_i22, rs_a22, rs_i23, rs_a23, rs_i24, rs_a24, rs_i25, rs_a25, rs_i26, rs_a26, rs_i27, rs_a27, rs_i28, rs_a28, rs_i29, rs_a29, rs_i30, rs_a30, rs_i31, rs_a31, rs_i32, rs_a32, rs_i33, rs_a33, rs_i34, rs_a34, rs_i35, rs_a35, rs_i36, rs_a36, rs_w_0, rs_w_1, rs_w_2, rs_w_28, rs_w_30, rs_w_41, mxl_87, mxl_88, mxl_89, mxl_90, mxl_91, mxl_92, mxl_93, mxl_94, mxl_95, mxl_96, mxl_97, mxl_98, mxl_99, mxl_100, mxl_101, mxl_102, mxl_103, mxl_104, mxl_105, mxl_106, mxl_107, mxl_108, mxl_109, mxl_110, mxl_111, mxl_112, mxl_113, mxl_114, mxl_115, mxl_116, mxl_117, mxl_118, mxl_119, mxl_120, mxl_121, mxl_122, mxl_123, mxl_124, mxl_125, mxl_126, mxl_127, mxl_128, mxl_129, mxl_130, mxl_131, mxl_132, mxl_133, mxl_134, mxl_135, mxl_136, mxl_137, h30, c1]
        exact ih (cu s2 x) (by omega) s2 _ (p :: O2) _ _ (Nat.le_refl _) ⟨fun p' hp' => (hkk p' hp').2, fun p' hp' => hno p' (List.mem_of_mem_tail hp'), Or.inr hno⟩ P2' J2 V2 hk02
    · have h30 : s1.1 30 = nI 0 := P1.1.2.2.1
      simp only [r107_79, r107_80, r107_81, r107_84, r107_87, r107_88, r107_89, wo_nx, wo_ret, wo_ite, wo_call, bk_inl, mj_lda, mj_ldi, mj_sti, mj_sta, mj_b2, mj_br1, mj_br2, mj_brn, mj_ir, mj_rr, mj_nx, mj_gf, mj_k2, mj_rc, mj_dup, mj_inc, List.getElem?_cons_zero, List.getElem?_cons_succ, List.length_cons, List.length_nil, List.set_cons_succ, List.set_cons_zero, Nat.reduceAdd, Nat.reduceLT, if_true, if_false, mj_iif, decide_eq_true_eq, List.take_succ_cons, List.take_zero, List.reverse_cons, List.reverse_nil, List.nil_append, List.cons_append, List.drop_succ_cons, List.drop_zero, List.map_cons, List.map_nil, cat_i, cat_r, cat_n, Nat.reduceLeDiff, true_and, and_true, decide_true, Option.toList_some, Option.toList_none, and_self, Nat.le_refl, mj_il, mj_is, mj_zs, mj_pf, mj_fit, mj_vr, mj_zr, mj_dup2, mj_pop, Option.isSome_some, rs_cls, rs_u1, rs_u2, rs_w1, rs_w2, Nat.reduceEqDiff, reduceIte, rs_f0, rs_f1, rs_f2, rs_f3, rs_f4, rs_f5, rs_f6, rs_f7, rs_f8, rs_f9, rs_f10, rs_f11, rs_f12, rs_f13, rs_f14, rs_f15, rs_f16, rs_f17, rs_f18, rs_f19, rs_f20, rs_f21, rs_f22, rs_f23, rs_f24, rs_f25, rs_f26, rs_f27, rs_f28, rs_f29, rs_f30, rs_f31, rs_f32, rs_f33, rs_f34, rs_f35, rs_f36, rs_f37, rs_f38, rs_f39, rs_f40, rs_f41, rs_i1, rs_a1, rs_i2, rs_a2, rs_i3, rs_a3, rs_i4, rs_a4, rs_i5, rs_a5, rs_i6, rs_a6, rs_i7, rs_a7, rs_i8, rs_a8, rs_i9, rs_a9, rs_i10, rs_a10, rs_i11, rs_a11, rs_i12, rs_a12, rs_i13, rs_a13, rs_i14, rs_a14, rs_i15, rs_a15, rs_i16, rs_a16, rs_i17, rs_a17, rs_i18, rs_a18, rs_i19, rs_a19, rs_i20, rs_a20, rs_i21, rs_a21, rs_i22, rs_a22, rs_i23, rs_a23, rs_i24, rs_a24, rs_i25, rs_a25, rs_i26, rs_a26, rs_i27, rs_a27, rs_i28, rs_a28, rs_i29, rs_a29, rs_i30, rs_a30, rs_i31, rs_a31, rs_i32, rs_a32, rs_i33, rs_a33, rs_i34, rs_a34, rs_i35, rs_a35, rs_i36, rs_a36, rs_w_0, rs_w_1, rs_w_2, rs_w_28, rs_w_30, rs_w_41, mxl_87, mxl_88, mxl_89, mxl_90, mxl_91, mxl_92, mxl_93, mxl_94, mxl_95, mxl_96, mxl_97, mxl_98, mxl_99, mxl_100, mxl_101, mxl_102, mxl_103, mxl_104, mxl_105, mxl_106, mxl_107, mxl_108, mxl_109, mxl_110, mxl_111, mxl_112, mxl_113, mxl_114, mxl_115, mxl_116, mxl_117, mxl_118, mxl_119, mxl_120, mxl_121, mxl_122, mxl_123, mxl_124, mxl_125, mxl_126, mxl_127, mxl_128, mxl_129, mxl_130, mxl_131, mxl_132, mxl_133, mxl_134, mxl_135, mxl_136, mxl_137, j1, c2, R_goOn0 (show x < 5 by omega) hr]
      simp only [r107_92, r107_93, r107_96, r107_103, r107_104, r107_105, r107_2, r107_3, r107_108, wo_nx, wo_ret, wo_ite, wo_call, bk_inl, mj_lda, mj_ldi, mj_sti, mj_sta, mj_b2, mj_br1, mj_br2, mj_brn, mj_ir, mj_rr, mj_nx, mj_gf, mj_k2, mj_rc, mj_dup, mj_inc, List.getElem?_cons_zero, List.getElem?_cons_succ, List.length_cons, List.length_nil, List.set_cons_succ, List.set_cons_zero, Nat.reduceAdd, Nat.reduceLT, if_true, if_false, mj_iif, decide_eq_true_eq, List.take_succ_cons, List.take_zero, List.reverse_cons, List.reverse_nil, List.nil_append, List.cons_append, List.drop_succ_cons, List.drop_zero, List.map_cons, List.map_nil, cat_i, cat_r, cat_n, Nat.reduceLeDiff, true_and, and_true, decide_true, Option.toList_some, Option.toList_none, and_self, Nat.le_refl, mj_il, mj_is, mj_zs, mj_pf, mj_fit, mj_vr, mj_zr, mj_dup2, mj_pop, Option.isSome_some, rs_cls, rs_u1, rs_u2, rs_w1, rs_w2, Nat.reduceEqDiff, reduceIte, rs_f0, rs_f1, rs_f2, rs_f3, rs_f4, rs_f5, rs_f6, rs_f7, rs_f8, rs_f9, rs_f10, rs_f11, rs_f12, rs_f13, rs_f14, rs_f15, rs_f16, rs_f17, rs_f18, rs_f19, rs_f20, rs_f21, rs_f22, rs_f23, rs_f24, rs_f25, rs_f26, rs_f27, rs_f28, rs_f29, rs_f30, rs_f31, rs_f32, rs_f33, rs_f34, rs_f35, rs_f36, rs_f37, rs_f38, rs_f39, rs_f40, rs_f41, rs_i1, rs_a1, rs_i2, rs_a2, rs_i3, rs_a3, rs_i4, rs_a4, rs_i5, rs_a5, rs_i6, rs_a6, rs_i7, rs_a7, rs_i8, rs_a8, rs_i9, rs_a9, rs_i10, rs_a10, rs_i11, rs_a11, rs_i12, rs_a12, rs_i13, rs_a13, rs_i14, rs_a14, rs_i15, rs_a15, rs_i16, rs_a16, rs_i17, rs_a17, rs_i18, rs_a18, rs_i19, rs_a19, rs_i20, rs_a20, rs_i21, rs_a21, rs_i22, rs_a22, rs_i23, rs_a23, rs_i24, rs_a24, rs_i25, rs_a25, rs_i26, rs_a26, rs_i27, rs_a27, rs_i28, rs_a28, rs_i29, rs_a29, rs_i30, rs_a30, rs_i31, rs_a31, rs_i32, rs_a32, rs_i33, rs_a33, rs_i34, rs_a34, rs_i35, rs_a35, rs_i36, rs_a36, rs_w_0, rs_w_1, rs_w_2, rs_w_28, rs_w_30, rs_w_41, mxl_87, mxl_88, mxl_89, mxl_90, mxl_91, mxl_92, mxl_93, mxl_94, mxl_95, mxl_96, mxl_97, mxl_98, mxl_99, mxl_100, mxl_101, mxl_102, mxl_103, mxl_104, mxl_105, mxl_106, mxl_107, mxl_108, mxl_109, mxl_110, mxl_111, mxl_112, mxl_113, mxl_114, mxl_115, mxl_116, mxl_117, mxl_118, mxl_119, mxl_120, mxl_121, mxl_122, mxl_123, mxl_124, mxl_125, mxl_126, mxl_127, mxl_128, mxl_129, mxl_130, mxl_131, mxl_132, mxl_133, mxl_134, mxl_135, mxl_136, mxl_137, h30, nI_0, c0]
      exact hQ s1 ⟨X ++ X1, by rw [← List.append_assoc]; exact P1, J1, V1, hk01⟩
/-- finish(x) -/
theorem R_finish (hm : m = 2 ∨ m = 3 ∨ m = 4 ∨ m = 5) (hx : x < 2 * m - 1) (h8 : hd.length ≤ 8) (P : rs_P s (2 * m - 1) W O hd) (J : rs_J s m) (V : rs_V s m) (hO : rs_O s x O) (hsp : ¬ x < m → O = []) (hQ : ∀ s', rs_Fn s m W hd s' → Q (.inl none) (rs_st ar B z q s')) : mj_wp (tb ar) 107 (mj_en (tb ar) 107 [.ref B, .int (nI x)] (rs_st ar B z q s)) Q := by
  rw [ent_107]
  by_cases hxm : x < m
  · simp only [r107_0, r107_1, wo_nx, wo_ret, wo_ite, wo_call, bk_inl, mj_lda, mj_ldi, mj_sti, mj_sta, mj_b2, mj_br1, mj_br2, mj_brn, mj_ir, mj_rr, mj_nx, mj_gf, mj_k2, mj_rc, mj_dup, mj_inc, List.getElem?_cons_zero, List.getElem?_cons_succ, List.length_cons, List.length_nil, List.set_cons_succ, List.set_cons_zero, Nat.reduceAdd, Nat.reduceLT, if_true, if_false, mj_iif, decide_eq_true_eq, List.take_succ_cons, List.take_zero, List.reverse_cons, List.reverse_nil, List.nil_append, List.cons_append, List.drop_succ_cons, List.drop_zero, List.map_cons, List.map_nil, cat_i, cat_r, cat_n, Nat.reduceLeDiff, true_and, and_true, decide_true, Option.toList_some, Option.toList_none, and_self, Nat.le_refl, mj_il, mj_is, mj_zs, mj_pf, mj_fit, mj_vr, mj_zr, mj_dup2, mj_pop, Option.isSome_some, rs_cls, rs_u1, rs_u2, rs_w1, rs_w2, Nat.reduceEqDiff, reduceIte, rs_f0, rs_f1, rs_f2, rs_f3, rs_f4, rs_f5, rs_f6, rs_f7, rs_f8, rs_f9, rs_f10, rs_f11, rs_f12, rs_f13, rs_f14, rs_f15, rs_f16, rs_f17, rs_f18, rs_f19, rs_f20, rs_f21, rs_f22, rs_f23, rs_f24, rs_f25, rs_f26, rs_f27, rs_f28, rs_f29, rs_f30, rs_f31, rs_f32, rs_f33, rs_f34, rs_f35, rs_f36, rs_f37, rs_f38, rs_f39, rs_f40, rs_f41, rs_i1, rs_a1, rs_i2, rs_a2, rs_i3, rs_a3, rs_i4, rs_a4, rs_i5, rs_a5, rs_i6, rs_a6, rs_i7, rs_a7, rs_i8, rs_a8, rs_i9, rs_a9, rs_i10, rs_a10, rs_i11, rs_a11, rs_i12, rs_a12, rs_i13, rs_a13, rs_i14, rs_a14, rs_i15, rs_a15, rs_i16, rs_a16, rs_i17, rs_a17, rs_i18, rs_a18, rs_i19, rs_a19, rs_i20, rs_a20, rs_i21, rs_a21, rs_i22, rs_a22, rs_i23, rs_a23, rs_i24, rs_a24, rs_i25, rs_a25, rs_i26, rs_a26, rs_i27, rs_a27, rs_i28, rs_a28, rs_i29, rs_a29, rs_i30, rs_a30, rs_i31, rs_a31, rs_i32, rs_a32, rs_i33, rs_a33, rs_i34, rs_a34, rs_i35, rs_a35, rs_i36, rs_a36, rs_w_0, rs_w_1, rs_w_2, rs_w_28, rs_w_30, rs_w_41, mxl_87, mxl_88, mxl_89, mxl_90, mxl_91, mxl_92, mxl_93, mxl_94, mxl_95, mxl_96, mxl_97, mxl_98, mxl_99, mxl_100, mxl_101, mxl_102, mxl_103, mxl_104, mxl_105, mxl_106, mxl_107, mxl_108, mxl_109, mxl_110, mxl_111, mxl_112, mxl_113, mxl_114, mxl_115, mxl_116, mxl_117, mxl_118, mxl_119, mxl_120, mxl_121, mxl_122, mxl_123, mxl_124, mxl_125, mxl_126, mxl_127, mxl_128, mxl_129, mxl_130, mxl_131, mxl_132, mxl_133, mxl_134, mxl_135, mxl_136, mxl_137]
    exact R_fin_loop hm hxm h8 hQ (cu s x) s [] O _ _ (Nat.le_refl _) hO (by rw [List.append_nil]; exact P) J V k_rf
  · have hO0 := hsp hxm
    subst hO0
    have h30 : s.1 30 = nI 0 := P.1.2.2.1
    have j1 : s.1 1 = nI m := J.1.1
    have c2 : nI m ≤ nI x := nI_le (by omega) (by omega)
    have c0 : (0 : Int32) ≤ 0 := by decide
    simp only [r107_0, r107_1, r107_2, r107_3, r107_6, r107_7, r107_10, r107_79, r107_80, r107_81, r107_84, r107_92, r107_93, r107_96, r107_103, r107_104, r107_105, r107_108, wo_nx, wo_ret, wo_ite, wo_call, bk_inl, mj_lda, mj_ldi, mj_sti, mj_sta, mj_b2, mj_br1, mj_br2, mj_brn, mj_ir, mj_rr, mj_nx, mj_gf, mj_k2, mj_rc, mj_dup, mj_inc, List.getElem?_cons_zero, List.getElem?_cons_succ, List.length_cons, List.length_nil, List.set_cons_succ, List.set_cons_zero, Nat.reduceAdd, Nat.reduceLT, if_true, if_false, mj_iif, decide_eq_true_eq, List.take_succ_cons, List.take_zero, List.reverse_cons, List.reverse_nil, List.nil_append, List.cons_append, List.drop_succ_cons, List.drop_zero, List.map_cons, List.map_nil, cat_i, cat_r, cat_n, Nat.reduceLeDiff, true_and, and_true, decide_true, Option.toList_some, Option.toList_none, and_self, Nat.le_refl, mj_il, mj_is, mj_zs, mj_pf, mj_fit, mj_vr, mj_zr, mj_dup2, mj_pop, Option.isSome_some, rs_cls, rs_u1, rs_u2, rs_w1, rs_w2, Nat.reduceEqDiff, reduceIte, rs_f0, rs_f1, rs_f2, rs_f3, rs_f4, rs_f5, rs_f6, rs_f7, rs_f8, rs_f9, rs_f10, rs_f11, rs_f12, rs_f13, rs_f14, rs_f15, rs_f16, rs_f17, rs_f18, rs_f19, rs_f20, rs_f21, rs_f22, rs_f23, rs_f24, rs_f25, rs_f26, rs_f27, rs_f28, rs_f29, rs_f30, rs_f31, rs_f32, rs_f33, rs_f34, rs_f35, rs_f36, rs_f37, rs_f38, rs_f39, rs_f40, rs_f41, rs_i1, rs_a1, rs_i2, rs_a2, rs_i3, rs_a3, rs_i4, rs_a4, rs_i5, rs_a5, rs_i6, rs_a6, rs_i7, rs_a7, rs_i8, rs_a8, rs_i9, rs_a9, rs_i10, rs_a10, rs_i11, rs_a11, rs_i12, rs_a12, rs_i13, rs_a13, rs_i14, rs_a14, rs_i15, rs_a15, rs_i16, rs_a16, rs_i17, rs_a17, rs_i18, rs_a18, rs_i19, rs_a19, rs_i20, rs_a20, rs_i21, rs_a21, rs_i22, rs_a22, rs_i23, rs_a23, rs_i24, rs_a24, rs_i25, rs_a25, rs_i26, rs_a26, rs_i27, rs_a27, rs_i28, rs_a28, rs_i29, rs_a29, rs_i30, rs_a30, rs_i31, rs_a31, rs_i32, rs_a32, rs_i33, rs_a33, rs_i34, rs_a34, rs_i35, rs_a35, rs_i36, rs_a36, rs_w_0, rs_w_1, rs_w_2, rs_w_28, rs_w_30, rs_w_41, mxl_87, mxl_88, mxl_89, mxl_90, mxl_91, mxl_92, mxl_93, mxl_94, mxl_95, mxl_96, mxl_97, mxl_98, mxl_99, mxl_100, mxl_101, mxl_102, mxl_103, mxl_104, mxl_105, mxl_106, mxl_107, mxl_108, mxl_109, mxl_110, mxl_111, mxl_112, mxl_113, mxl_114, mxl_115, mxl_116, mxl_117, mxl_118, mxl_119, mxl_120, mxl_121, mxl_122, mxl_123, mxl_124, mxl_125, mxl_126, mxl_127, mxl_128, mxl_129, mxl_130, mxl_131, mxl_132, mxl_133, mxl_134, mxl_135, mxl_136, mxl_137, k_10, h30, nI_0, c0, j1, c2]
    exact hQ s ⟨[], by rw [List.append_nil]; exact P, J, V, k_rf⟩
end RF0
