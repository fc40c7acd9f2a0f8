section RP
variable {ar : Nat → ClassId} {σ : mj_S} {Q : (Option Value ⊕ String) → mj_S → Prop}
/-- places lo .. s - 1 are 0 -/
def w_clr (f : Nat → Int32) (lo s : Nat) : Nat → Int32 := fun j => if lo ≤ j ∧ j < s then 0 else f j
theorem clr_le {f : Nat → Int32} {lo s : Nat} (h : s ≤ lo) : w_clr f lo s = f := by
  funext j
  exact if_neg (by omega)
theorem clr_succ {f : Nat → Int32} {lo s : Nat} (h : lo ≤ s) : upd (w_clr f lo s) s 0 = w_clr f lo (s + 1) := by
  funext j
  unfold upd w_clr
  by_cases hj : j = s
  · subst hj
    rw [if_pos rfl, if_pos (by omega)]
  · rw [if_neg hj]
    by_cases h2 : lo ≤ j ∧ j < s
    · rw [if_pos h2, if_pos (by omega)]
    · rw [if_neg h2, if_neg (by omega)]
theorem up_self {a : Nat} {e : va_E} (h : σ.2.2 a = some e) : mj_up σ a e = σ := by
  obtain ⟨x, y, f⟩ := σ
  unfold mj_up
  dsimp only at h ⊢
  congr 2
  funext c
  by_cases hc : c = a
  · subst hc
    simp [h]
  · simp [hc]
theorem up_cm {a b : Nat} {e e' : va_E} (h : a ≠ b) : mj_up (mj_up σ a e) b e' = mj_up (mj_up σ b e') a e := by
  unfold mj_up
  dsimp only
  congr 2
  funext c
  by_cases hc : c = a
  · subst hc
    simp [h]
  · simp [hc]
theorem w_forget_loop {a b c lo u : Nat} {f g : Nat → Int32} {en x : Int32} (hab : a ≠ b) (hac : a ≠ c) (hbc : c ≠ b) (ha : σ.2.2 a = some (.inr (7, [.ref b, .ref c, .int (nI lo), .int en]))) (hu : u ≤ 100) : ∀ (j s : Nat), lo ≤ s → s + j = max lo u → lo < 2 ^ 31 →
    (mj_wp (tb ar) 33 (23, [some (.ref a), some (.int x), some (.int (nI u)), some (.int (nI s))], [], mj_up (mj_up σ b (w_ia ar 100 (w_clr f lo s))) c (w_ia ar 100 (w_clr g lo s))) Q ↔ mj_wp (tb ar) 33 (48, [some (.ref a), some (.int x), some (.int (nI u)), some (.int (nI (max lo u)))], [], mj_up (mj_up σ b (w_ia ar 100 (w_clr f lo u))) c (w_ia ar 100 (w_clr g lo u))) Q)
  | 0, s, h1, h2, h3 => by
    have h' : s = max lo u := by omega
    have c1 : nI u ≤ nI s := nI_le (by omega) (by omega)
    have e : ∀ f : Nat → Int32, w_clr f lo s = w_clr f lo u := fun f => by
      funext j
      unfold w_clr
      by_cases hq : lo ≤ j ∧ j < s
      · rw [if_pos hq, if_pos (by omega)]
      · rw [if_neg hq, if_neg (by omega)]
    rw [e f, e g]
    simp only [r33_23, r33_24, r33_25, wo_nx, wo_ret, wo_ite, wo_call, bk_inl, mj_lda, mj_ldi, mj_sti, mj_sta, mj_b2, mj_br1, mj_br2, mj_brn, mj_ir, mj_rr, mj_nx, mj_gf, mj_fld, mj_k2, mj_rc, mj_cls, mj_dup, mj_inc, List.getElem?_cons_zero, List.getElem?_cons_succ, List.length_cons, List.length_nil, List.set_cons_succ, List.set_cons_zero, Nat.reduceAdd, Nat.reduceLT, if_true, if_false, mj_iif, decide_eq_true_eq, List.take_succ_cons, List.take_zero, List.reverse_cons, List.reverse_nil, List.nil_append, List.cons_append, List.drop_succ_cons, List.drop_zero, List.map_cons, List.map_nil, cat_i, cat_r, cat_n, Nat.reduceLeDiff, true_and, and_true, decide_true, Option.toList_some, Option.toList_none, and_self, Nat.le_refl, c1, h']
    rw [if_pos (by rw [← h']; exact c1)]
  | j + 1, s, h1, h2, h3 => by
    have ih := w_forget_loop hab hac hbc ha hu j (s + 1) (by omega) (by omega) h3 (f := f) (g := g) (x := x)
    have c1 : ¬ nI u ≤ nI s := nI_ge (by omega) (by omega)
    have hix : mj_ix (nI s) 100 = true := ix_of (by omega) (by decide)
    have hcl : (nI s).toNatClampNeg = s := nI_clamp (by omega)
    have ha1 : ∀ e e', (mj_up (mj_up σ b e) c e').2.2 a = some (.inr (7, [.ref b, .ref c, .int (nI lo), .int en])) := fun e e' => by rw [up_ne hac, up_ne hab]; exact ha
    have hb1 : ∀ e e', (mj_up (mj_up σ b e) c e').2.2 b = some e := fun e e' => by rw [up_ne (Ne.symm hbc), up_eq]
    have hb2 : ∀ e e' e'', mj_up (mj_up (mj_up σ b e) c e') b e'' = mj_up (mj_up σ b e'') c e' := fun e e' e'' => by rw [up_cm hbc, up_up]
    refine Iff.trans ?_ ih
    rw [r33_23]
    simp only [r33_24, r33_25, r33_28, r33_29, r33_32, r33_33, r33_34, r33_35, r33_36, r33_39, r33_40, r33_41, r33_42, r33_45, wo_nx, wo_ret, wo_ite, wo_call, bk_inl, mj_lda, mj_ldi, mj_sti, mj_sta, mj_b2, mj_br1, mj_br2, mj_brn, mj_ir, mj_rr, mj_nx, mj_gf, mj_fld, mj_k2, mj_rc, mj_cls, mj_dup, mj_inc, List.getElem?_cons_zero, List.getElem?_cons_succ, List.length_cons, List.length_nil, List.set_cons_succ, List.set_cons_zero, Nat.reduceAdd, Nat.reduceLT, if_true, if_false, mj_iif, decide_eq_true_eq, List.take_succ_cons, List.take_zero, List.reverse_cons, List.reverse_nil, List.nil_append, List.cons_append, List.drop_succ_cons, List.drop_zero, List.map_cons, List.map_nil, cat_i, cat_r, cat_n, Nat.reduceLeDiff, true_and, and_true, decide_true, Option.toList_some, Option.toList_none, and_self, Nat.le_refl, c1, ha1, hb1, hb2, up_eq, up_up, mj_is, mj_ia, mj_sa, hix, hcl, ar_0, nI_1, clr_succ h1]
theorem w_forget {a b c lo en k : Nat} {f g : Nat → Int32} (hab : a ≠ b) (hac : a ≠ c) (hbc : c ≠ b) (ha : σ.2.2 a = some (.inr (7, [.ref b, .ref c, .int (nI lo), .int (nI en)]))) (hb : σ.2.2 b = some (w_ia ar 100 f)) (hc : σ.2.2 c = some (w_ia ar 100 g)) (he : en ≤ 100) (hlk : lo < k) (hk : k < 2 ^ 31) : mj_wp (tb ar) 33 (mj_en (tb ar) 33 [.ref a, .int (nI k)] σ) Q ↔ Q (.inl none) (mj_up (mj_up (mj_up σ b (w_ia ar 100 (w_clr f lo (min k en)))) c (w_ia ar 100 (w_clr g lo (min k en)))) a (.inr (7, [.ref b, .ref c, .int (nI k), .int (if en ≤ k then 0 else nI en)]))) := by
  rw [en_33]
  have c1 : nI lo < nI k := nI_lt hlk hk
  have c2 : (if nI en < nI k then nI en else nI k) = nI (min k en) := by
    by_cases h : en < k
    · rw [if_pos (nI_lt h hk), Nat.min_eq_right (by omega)]
    · rw [if_neg (nI_nlt (by omega) (by omega)), Nat.min_eq_left (by omega)]
  have hl := w_forget_loop (ar := ar) (Q := Q) (f := f) (g := g) (x := nI k) hab hac hbc ha (u := min k en) (by omega) (max lo (min k en) - lo) lo (Nat.le_refl _) (by omega) (by omega)
  rw [clr_le (Nat.le_refl _), clr_le (Nat.le_refl _), up_self hb, up_self hc] at hl
  simp only [r33_0, r33_1, r33_2, r33_5, r33_9, r33_10, r33_11, r33_14, r33_17, r33_18, r33_19, r33_22, wo_nx, wo_ret, wo_ite, wo_call, bk_inl, mj_lda, mj_ldi, mj_sti, mj_sta, mj_b2, mj_br1, mj_br2, mj_brn, mj_ir, mj_rr, mj_nx, mj_gf, mj_fld, mj_k2, mj_rc, mj_cls, mj_dup, mj_inc, List.getElem?_cons_zero, List.getElem?_cons_succ, List.length_cons, List.length_nil, List.set_cons_succ, List.set_cons_zero, Nat.reduceAdd, Nat.reduceLT, if_true, if_false, mj_iif, decide_eq_true_eq, List.take_succ_cons, List.take_zero, List.reverse_cons, List.reverse_nil, List.nil_append, List.cons_append, List.drop_succ_cons, List.drop_zero, List.map_cons, List.map_nil, cat_i, cat_r, cat_n, Nat.reduceLeDiff, true_and, and_true, decide_true, Option.toList_some, Option.toList_none, and_self, Nat.le_refl, ha, c1, mj_mm, c2]
  rw [hl]
  have ha1 : ∀ e e', (mj_up (mj_up σ b e) c e').2.2 a = some (.inr (7, [.ref b, .ref c, .int (nI lo), .int (nI en)])) := fun e e' => by rw [up_ne hac, up_ne hab]; exact ha
  by_cases h : en ≤ k
  · have c3 : ¬ nI k < nI en := nI_nlt h hk
    simp only [r33_48, r33_49, r33_50, r33_53, r33_54, r33_57, r33_58, r33_61, r33_62, r33_63, r33_66, wo_nx, wo_ret, wo_ite, wo_call, bk_inl, mj_lda, mj_ldi, mj_sti, mj_sta, mj_b2, mj_br1, mj_br2, mj_brn, mj_ir, mj_rr, mj_nx, mj_gf, mj_fld, mj_k2, mj_rc, mj_cls, mj_dup, mj_inc, List.getElem?_cons_zero, List.getElem?_cons_succ, List.length_cons, List.length_nil, List.set_cons_succ, List.set_cons_zero, Nat.reduceAdd, Nat.reduceLT, if_true, if_false, mj_iif, decide_eq_true_eq, List.take_succ_cons, List.take_zero, List.reverse_cons, List.reverse_nil, List.nil_append, List.cons_append, List.drop_succ_cons, List.drop_zero, List.map_cons, List.map_nil, cat_i, cat_r, cat_n, Nat.reduceLeDiff, true_and, and_true, decide_true, Option.toList_some, Option.toList_none, and_self, Nat.le_refl, ha1, mj_pf, mj_sf, mj_fit, mj_vr, up_eq, up_up, Option.isSome_some, c3, h]
  · have c3 : nI k < nI en := nI_lt (by omega) (by omega)
    simp only [r33_48, r33_49, r33_50, r33_53, r33_54, r33_57, r33_58, r33_61, r33_62, r33_63, r33_66, wo_nx, wo_ret, wo_ite, wo_call, bk_inl, mj_lda, mj_ldi, mj_sti, mj_sta, mj_b2, mj_br1, mj_br2, mj_brn, mj_ir, mj_rr, mj_nx, mj_gf, mj_fld, mj_k2, mj_rc, mj_cls, mj_dup, mj_inc, List.getElem?_cons_zero, List.getElem?_cons_succ, List.length_cons, List.length_nil, List.set_cons_succ, List.set_cons_zero, Nat.reduceAdd, Nat.reduceLT, if_true, if_false, mj_iif, decide_eq_true_eq, List.take_succ_cons, List.take_zero, List.reverse_cons, List.reverse_nil, List.nil_append, List.cons_append, List.drop_succ_cons, List.drop_zero, List.map_cons, List.map_nil, cat_i, cat_r, cat_n, Nat.reduceLeDiff, true_and, and_true, decide_true, Option.toList_some, Option.toList_none, and_self, Nat.le_refl, ha1, mj_pf, mj_sf, mj_fit, mj_vr, up_eq, up_up, Option.isSome_some, c3, h]
theorem w_forget_no {a lo : Nat} {y z w : Value} {k : Int32} (ha : σ.2.2 a = some (.inr (7, [y, z, .int (nI lo), w]))) (hlk : k ≤ nI lo) : mj_wp (tb ar) 33 (mj_en (tb ar) 33 [.ref a, .int k] σ) Q ↔ Q (.inl none) σ := by
  rw [en_33]
  have c1 : ¬ nI lo < k := Int32.not_lt.mpr hlk
  simp only [r33_0, r33_1, r33_2, r33_5, r33_8, wo_nx, wo_ret, wo_ite, wo_call, bk_inl, mj_lda, mj_ldi, mj_sti, mj_sta, mj_b2, mj_br1, mj_br2, mj_brn, mj_ir, mj_rr, mj_nx, mj_gf, mj_fld, mj_k2, mj_rc, mj_cls, mj_dup, mj_inc, List.getElem?_cons_zero, List.getElem?_cons_succ, List.length_cons, List.length_nil, List.set_cons_succ, List.set_cons_zero, Nat.reduceAdd, Nat.reduceLT, if_true, if_false, mj_iif, decide_eq_true_eq, List.take_succ_cons, List.take_zero, List.reverse_cons, List.reverse_nil, List.nil_append, List.cons_append, List.drop_succ_cons, List.drop_zero, List.map_cons, List.map_nil, cat_i, cat_r, cat_n, Nat.reduceLeDiff, true_and, and_true, decide_true, Option.toList_some, Option.toList_none, and_self, Nat.le_refl, ha, c1, mj_vr]
/-- copy: from Row o to Row a -/
theorem w_copy {a b c o b' c' en en' : Nat} {f g f' g' : Nat → Int32} {lo lo' : Value} {li : Int32} (hlo : lo' = .int li) (hab : a ≠ b) (hac : a ≠ c) (hbc : c ≠ b) (hob : o ≠ b) (hoc : o ≠ c) (hoa : o ≠ a) (hbb : b' ≠ b) (hcb : c' ≠ b) (hcc : c' ≠ c) (ha : σ.2.2 a = some (.inr (7, [.ref b, .ref c, lo, .int (nI en)]))) (hb : σ.2.2 b = some (w_ia ar 100 f)) (hc : σ.2.2 c = some (w_ia ar 100 g)) (ho : σ.2.2 o = some (.inr (7, [.ref b', .ref c', lo', .int (nI en')]))) (hb' : σ.2.2 b' = some (w_ia ar 100 f')) (hc' : σ.2.2 c' = some (w_ia ar 100 g')) (he : en ≤ 100) (he' : en' ≤ 100) : mj_wp (tb ar) 34 (mj_en (tb ar) 34 [.ref a, .ref o] σ) Q ↔ Q (.inl none) (mj_up (mj_up (mj_up σ b (w_ia ar 100 (va_cpy f' f 0 0 (max en en')))) c (w_ia ar 100 (va_cpy g' g 0 0 (max en en')))) a (.inr (7, [.ref b, .ref c, lo', .int (nI en')]))) := by
  rw [en_34]
  subst hlo
  have c2 : (if nI en < nI en' then nI en' else nI en) = nI (max en en') := by
    by_cases h : en < en'
    · rw [if_pos (nI_lt h (by omega)), Nat.max_eq_right (by omega)]
    · rw [if_neg (nI_nlt (by omega) (by omega)), Nat.max_eq_left (by omega)]
  have k1 : ((0 : Int32)).toNatClampNeg = 0 := by decide
  have k2 : ¬ (0 : Int32) < 0 := by decide
  have k3 : ¬ nI (max en en') < 0 := nI_pos (by omega)
  have k4 : (nI (max en en')).toNatClampNeg = max en en' := nI_clamp (by omega)
  have k5 : max en en' ≤ 100 := by omega
  have ha1 : ∀ e, (mj_up σ b e).2.2 a = some (.inr (7, [.ref b, .ref c, lo, .int (nI en)])) := fun e => by rw [up_ne hab]; exact ha
  have ho1 : ∀ e, (mj_up σ b e).2.2 o = some (.inr (7, [.ref b', .ref c', .int li, .int (nI en')])) := fun e => by rw [up_ne hob]; exact ho
  have hc1 : ∀ e, (mj_up σ b e).2.2 c = some (w_ia ar 100 g) := fun e => by rw [up_ne hbc]; exact hc
  have hc2 : ∀ e, (mj_up σ b e).2.2 c' = some (w_ia ar 100 g') := fun e => by rw [up_ne hcb]; exact hc'
  have ha2 : ∀ e e', (mj_up (mj_up σ b e) c e').2.2 a = some (.inr (7, [.ref b, .ref c, lo, .int (nI en)])) := fun e e' => by rw [up_ne hac, up_ne hab]; exact ha
  have ho2 : ∀ e e', (mj_up (mj_up σ b e) c e').2.2 o = some (.inr (7, [.ref b', .ref c', .int li, .int (nI en')])) := fun e e' => by rw [up_ne hoc, up_ne hob]; exact ho
  have ho3 : ∀ e e' e'', (mj_up (mj_up (mj_up σ b e) c e') a e'').2.2 o = some (.inr (7, [.ref b', .ref c', .int li, .int (nI en')])) := fun e e' e'' => by rw [up_ne hoa, up_ne hoc, up_ne hob]; exact ho
  simp only [r34_0, r34_1, r34_4, r34_5, r34_8, r34_11, r34_12, r34_13, r34_16, r34_17, r34_18, r34_21, r34_22, r34_23, r34_26, r34_27, r34_30, r34_31, r34_32, r34_35, r34_36, r34_37, r34_40, r34_41, r34_42, r34_45, r34_48, r34_49, r34_50, r34_53, r34_56, wo_nx, wo_ret, wo_ite, wo_call, bk_inl, mj_lda, mj_ldi, mj_sti, mj_sta, mj_b2, mj_br1, mj_br2, mj_brn, mj_ir, mj_rr, mj_nx, mj_gf, mj_fld, mj_k2, mj_rc, mj_cls, mj_dup, mj_inc, List.getElem?_cons_zero, List.getElem?_cons_succ, List.length_cons, List.length_nil, List.set_cons_succ, List.set_cons_zero, Nat.reduceAdd, Nat.reduceLT, if_true, if_false, mj_iif, decide_eq_true_eq, List.take_succ_cons, List.take_zero, List.reverse_cons, List.reverse_nil, List.nil_append, List.cons_append, List.drop_succ_cons, List.drop_zero, List.map_cons, List.map_nil, cat_i, cat_r, cat_n, Nat.reduceLeDiff, true_and, and_true, decide_true, Option.toList_some, Option.toList_none, and_self, Nat.le_refl, ha, ho, hb, hb', ha1, ho1, hc1, hc2, ha2, ho2, ho3, mj_mm, c2, mj_cpy, ar_0, k1, k2, k3, k4, k5, hbb, hcc, Nat.zero_add, not_false_eq_true, Nat.zero_le, mj_pf, mj_sf, mj_fit, mj_vr, up_eq, up_up, Option.isSome_some]
end RP
