section LP
variable {ar : Nat → ClassId} {σ : mj_S} {Q : (Option Value ⊕ String) → mj_S → Prop}
theorem l_put0 {a : Nat} {i : Int32} {x : Value} (h : i < 0 ∨ 100 ≤ i) : mj_wp (tb ar) 14 (mj_en (tb ar) 14 [.ref a, .int i, x] σ) Q ↔ Q (.inl none) σ := by
  rw [en_14]
  simp only [r14_0, r14_1, r14_4, r14_16, wo_nx, wo_ret, wo_ite, wo_call, bk_inl, mj_lda, mj_ldi, mj_sti, mj_sta, mj_b2, mj_br1, mj_br2, mj_brn, mj_ir, mj_rr, mj_nx, mj_gf, mj_fld, mj_k2, mj_rc, mj_cls, mj_dup, mj_inc, List.getElem?_cons_zero, List.getElem?_cons_succ, List.length_cons, List.length_nil, List.set_cons_succ, List.set_cons_zero, Nat.reduceAdd, Nat.reduceLT, if_true, if_false, mj_iif, decide_eq_true_eq, List.take_succ_cons, List.take_zero, List.reverse_cons, List.reverse_nil, List.nil_append, List.cons_append, List.drop_succ_cons, List.drop_zero, List.map_cons, List.map_nil, cat_i, cat_r, cat_n, Nat.reduceLeDiff, true_and, and_true, decide_true, Option.toList_some, Option.toList_none, and_self, Nat.le_refl, mL_85, i_slot0 h, mj_vr]
theorem l_put1 {a t s : Nat} {f : Nat → Int32} {x : Value} {fs : List Value} (ha : σ.2.2 a = some (.inr (1, .ref t :: fs))) (ht : σ.2.2 t = some (w_ba ar 100 f)) (hs : s < 100) (hf : ¬ f s = 0) : mj_wp (tb ar) 14 (mj_en (tb ar) 14 [.ref a, .int (nI s), x] σ) Q ↔ Q (.inl none) σ := by
  rw [en_14]
  have hix : mj_ix (nI s) 100 = true := ix_of hs (by decide)
  have hcl : (nI s).toNatClampNeg = s := nI_clamp (by omega)
  simp only [r14_0, r14_1, r14_4, r14_7, r14_8, r14_11, r14_12, r14_13, r14_16, wo_nx, wo_ret, wo_ite, wo_call, bk_inl, mj_lda, mj_ldi, mj_sti, mj_sta, mj_b2, mj_br1, mj_br2, mj_brn, mj_ir, mj_rr, mj_nx, mj_gf, mj_fld, mj_k2, mj_rc, mj_cls, mj_dup, mj_inc, List.getElem?_cons_zero, List.getElem?_cons_succ, List.length_cons, List.length_nil, List.set_cons_succ, List.set_cons_zero, Nat.reduceAdd, Nat.reduceLT, if_true, if_false, mj_iif, decide_eq_true_eq, List.take_succ_cons, List.take_zero, List.reverse_cons, List.reverse_nil, List.nil_append, List.cons_append, List.drop_succ_cons, List.drop_zero, List.map_cons, List.map_nil, cat_i, cat_r, cat_n, Nat.reduceLeDiff, true_and, and_true, decide_true, Option.toList_some, Option.toList_none, and_self, Nat.le_refl, mL_85, i_slot1 hs, k_10, ha, ht, mj_il, mj_ia, ar_1, hix, hcl, hf, mj_vr]
theorem l_put {a t c m s kn : Nat} {f g mb : Nat → Int32} {x sz en go lg : Int32} (hta : t ≠ a) (hca : c ≠ a) (hma : m ≠ a) (htm : t ≠ m) (hcm : c ≠ m) (htc : t ≠ c) (ha : σ.2.2 a = some (.inr (1, [.ref t, .ref c, .ref m, .int (nI kn), .int sz, .int en, .int go, .int lg]))) (ht : σ.2.2 t = some (w_ba ar 100 f)) (hc : σ.2.2 c = some (w_ia ar 100 g)) (hm : σ.2.2 m = some (w_ia ar 104 mb)) (hk : kn ≤ 100) (hs : s < 100) (hf : f s = 0) : mj_wp (tb ar) 14 (mj_en (tb ar) 14 [.ref a, .int (nI s), .int x] σ) Q ↔ Q (.inl none) (mj_up (mj_up (mj_up (mj_up σ t (w_ba ar 100 (upd f s 1))) c (w_ia ar 100 (upd g s x))) m (w_ia ar 104 (l_adv (upd f s 1) (upd g s x) (100 - kn) kn mb).2)) a (.inr (1, [.ref t, .ref c, .ref m, .int (nI (l_adv (upd f s 1) (upd g s x) (100 - kn) kn mb).1), .int (sz + 1), .int (if en < nI (s + 1) then nI (s + 1) else en), .int (if x < 0 then go ||| go_bit x else go), .int (if x < 0 then (if lg < nI s then nI s else lg) else lg)]))) := by
  rw [en_14]
  have hix : mj_ix (nI s) 100 = true := ix_of hs (by decide)
  have hcl : (nI s).toNatClampNeg = s := nI_clamp (by omega)
  have a1 : ∀ e, (mj_up σ t e).2.2 a = σ.2.2 a := fun e => up_ne (Ne.symm hta)
  have a2 : ∀ e e', (mj_up (mj_up σ t e) c e').2.2 a = σ.2.2 a := fun e e' => by rw [up_ne (Ne.symm hca), up_ne (Ne.symm hta)]
  have c1 : ∀ e, (mj_up σ t e).2.2 c = some (w_ia ar 100 g) := fun e => by rw [up_ne (Ne.symm htc)]; exact hc
  have t2 : (mj_up (mj_up σ t (w_ba ar 100 (upd f s 1))) c (w_ia ar 100 (upd g s x))).2.2 t = some (w_ba ar 100 (upd f s 1)) := by rw [up_ne htc, up_eq]
  have c2 : (mj_up (mj_up σ t (w_ba ar 100 (upd f s 1))) c (w_ia ar 100 (upd g s x))).2.2 c = some (w_ia ar 100 (upd g s x)) := up_eq
  have m2 : (mj_up (mj_up σ t (w_ba ar 100 (upd f s 1))) c (w_ia ar 100 (upd g s x))).2.2 m = some (w_ia ar 104 mb) := by rw [up_ne (Ne.symm hcm), up_ne (Ne.symm htm)]; exact hm
  have hl : ∀ (go lg : Value), _ := fun go lg => l_put_loop (ar := ar) (Q := Q) (sl := .int (nI s)) (cm := .int x) (sz := .int (sz + 1)) (en := .int (if en < nI (s + 1) then nI (s + 1) else en)) (go := go) (lg := lg) hta hca hma htm hcm t2 c2 (100 - kn) kn mb none (by omega)
  simp only [up_self m2] at hl
  by_cases h : x < 0
  · have h' : ¬ (0 : Int32) ≤ x := Int32.not_le.mpr h
    simp only [r14_0, r14_1, r14_4, r14_7, r14_8, r14_11, r14_12, r14_13, r14_17, r14_18, r14_21, r14_22, r14_23, r14_24, r14_25, r14_28, r14_29, r14_30, r14_31, r14_32, r14_33, r14_36, r14_37, r14_38, r14_41, r14_42, r14_43, r14_46, r14_47, r14_48, r14_49, r14_52, r14_55, r14_56, r14_59, r14_60, r14_61, r14_64, r14_65, r14_68, r14_69, r14_72, r14_73, r14_74, r14_77, r14_78, r14_81, wo_nx, wo_ret, wo_ite, wo_call, bk_inl, mj_lda, mj_ldi, mj_sti, mj_sta, mj_b2, mj_br1, mj_br2, mj_brn, mj_ir, mj_rr, mj_nx, mj_gf, mj_fld, mj_k2, mj_rc, mj_cls, mj_dup, mj_inc, List.getElem?_cons_zero, List.getElem?_cons_succ, List.length_cons, List.length_nil, List.set_cons_succ, List.set_cons_zero, Nat.reduceAdd, Nat.reduceLT, if_true, if_false, mj_iif, decide_eq_true_eq, List.take_succ_cons, List.take_zero, List.reverse_cons, List.reverse_nil, List.nil_append, List.cons_append, List.drop_succ_cons, List.drop_zero, List.map_cons, List.map_nil, cat_i, cat_r, cat_n, Nat.reduceLeDiff, true_and, and_true, decide_true, Option.toList_some, Option.toList_none, and_self, Nat.le_refl, mL_85, mL_86, g_bit, i_slot1 hs, k_10, a1, a2, ha, ht, c1, mj_il, mj_is, mj_zs, mj_ia, mj_sa, ar_0, ar_1, hix, hcl, hf, mj_vr, or_true, mj_pf, mj_sf, mj_fit, Option.isSome_some, up_eq, up_up, nI_1, mj_mm, h, h', hl]
  · have h' : (0 : Int32) ≤ x := Int32.not_lt.mp h
    simp only [r14_0, r14_1, r14_4, r14_7, r14_8, r14_11, r14_12, r14_13, r14_17, r14_18, r14_21, r14_22, r14_23, r14_24, r14_25, r14_28, r14_29, r14_30, r14_31, r14_32, r14_33, r14_36, r14_37, r14_38, r14_41, r14_42, r14_43, r14_46, r14_47, r14_48, r14_49, r14_52, r14_55, r14_56, wo_nx, wo_ret, wo_ite, wo_call, bk_inl, mj_lda, mj_ldi, mj_sti, mj_sta, mj_b2, mj_br1, mj_br2, mj_brn, mj_ir, mj_rr, mj_nx, mj_gf, mj_fld, mj_k2, mj_rc, mj_cls, mj_dup, mj_inc, List.getElem?_cons_zero, List.getElem?_cons_succ, List.length_cons, List.length_nil, List.set_cons_succ, List.set_cons_zero, Nat.reduceAdd, Nat.reduceLT, if_true, if_false, mj_iif, decide_eq_true_eq, List.take_succ_cons, List.take_zero, List.reverse_cons, List.reverse_nil, List.nil_append, List.cons_append, List.drop_succ_cons, List.drop_zero, List.map_cons, List.map_nil, cat_i, cat_r, cat_n, Nat.reduceLeDiff, true_and, and_true, decide_true, Option.toList_some, Option.toList_none, and_self, Nat.le_refl, mL_85, i_slot1 hs, k_10, a1, a2, ha, ht, c1, mj_il, mj_is, mj_zs, mj_ia, mj_sa, ar_0, ar_1, hix, hcl, hf, mj_vr, or_true, mj_pf, mj_sf, mj_fit, Option.isSome_some, up_eq, up_up, nI_1, mj_mm, h, h', hl]
end LP
section WA
variable {ar : Nat → ClassId} {σ : mj_S} {Q : (Option Value ⊕ String) → mj_S → Prop}
theorem en_37 {a b : Value} : mj_en (tb ar) 37 [a, b] σ = (0, [some a, some b], [], σ) := rfl
theorem en_38 {a b : Value} : mj_en (tb ar) 38 [a, b] σ = (0, [some a, some b, none], [], σ) := rfl
theorem en_39 {a : Value} : mj_en (tb ar) 39 [a] σ = (0, [some a, none, none], [], σ) := rfl
theorem en_40 {a : Value} : mj_en (tb ar) 40 [a] σ = (0, [some a, none, none], [], σ) := rfl
theorem ka_0 : mj_ka (tb ar) (ar 0) = true := by unfold mj_ka; simp [ar_0]
theorem z_last {a b n : Nat} {f : Nat → Int32} {x : Int32} {y : Value} (ha : σ.2.2 a = some (.inr (8, [.ref b, .int (nI n), y]))) (hb : σ.2.2 b = some (w_ia ar 25 f)) (hn : n < 25) : mj_wp (tb ar) 37 (mj_en (tb ar) 37 [.ref a, .int x] σ) Q ↔ Q (.inl none) (mj_up (mj_up σ b (w_ia ar 25 (upd f n x))) a (.inr (8, [.ref b, .int (nI (n + 1)), y]))) := by
  rw [en_37]
  have c1 : ¬ Int32.ofNat 25 ≤ nI n := nI_ge (b := 25) hn (by decide)
  have hix : mj_ix (nI n) 25 = true := ix_of hn (by decide)
  have hcl : (nI n).toNatClampNeg = n := nI_clamp (by omega)
  have a1 : ∀ e, (mj_up σ b e).2.2 a = σ.2.2 a := fun e => up_ne (ne_arr ha hb)
  simp only [r37_0, r37_1, r37_4, r37_5, r37_8, r37_9, r37_12, r37_13, r37_16, r37_17, r37_20, r37_21, r37_22, r37_23, r37_24, r37_27, r37_28, r37_29, r37_32, wo_nx, wo_ret, wo_ite, wo_call, bk_inl, mj_lda, mj_ldi, mj_sti, mj_sta, mj_b2, mj_br1, mj_br2, mj_brn, mj_ir, mj_rr, mj_nx, mj_gf, mj_fld, mj_k2, mj_rc, mj_cls, mj_dup, mj_inc, List.getElem?_cons_zero, List.getElem?_cons_succ, List.length_cons, List.length_nil, List.set_cons_succ, List.set_cons_zero, Nat.reduceAdd, Nat.reduceLT, if_true, if_false, mj_iif, decide_eq_true_eq, List.take_succ_cons, List.take_zero, List.reverse_cons, List.reverse_nil, List.nil_append, List.cons_append, List.drop_succ_cons, List.drop_zero, List.map_cons, List.map_nil, cat_i, cat_r, cat_n, Nat.reduceLeDiff, true_and, and_true, decide_true, Option.toList_some, Option.toList_none, and_self, Nat.le_refl, ha, hb, mj_alen, ka_0, c1, mj_is, mj_ia, mj_sa, ar_0, hix, hcl, a1, mj_pf, mj_sf, mj_fit, Option.isSome_some, nI_1, mj_vr]
theorem z_last0 {a b n : Nat} {f : Nat → Int32} {x : Value} {y : Value} (ha : σ.2.2 a = some (.inr (8, [.ref b, .int (nI n), y]))) (hb : σ.2.2 b = some (w_ia ar 25 f)) (hn : 25 ≤ n) (hn' : n < 2 ^ 31) : mj_wp (tb ar) 37 (mj_en (tb ar) 37 [.ref a, x] σ) Q ↔ Q (.inl none) σ := by
  rw [en_37]
  have c1 : Int32.ofNat 25 ≤ nI n := nI_le (a := 25) hn hn'
  simp only [r37_0, r37_1, r37_4, r37_5, r37_8, r37_9, r37_32, wo_nx, wo_ret, wo_ite, wo_call, bk_inl, mj_lda, mj_ldi, mj_sti, mj_sta, mj_b2, mj_br1, mj_br2, mj_brn, mj_ir, mj_rr, mj_nx, mj_gf, mj_fld, mj_k2, mj_rc, mj_cls, mj_dup, mj_inc, List.getElem?_cons_zero, List.getElem?_cons_succ, List.length_cons, List.length_nil, List.set_cons_succ, List.set_cons_zero, Nat.reduceAdd, Nat.reduceLT, if_true, if_false, mj_iif, decide_eq_true_eq, List.take_succ_cons, List.take_zero, List.reverse_cons, List.reverse_nil, List.nil_append, List.cons_append, List.drop_succ_cons, List.drop_zero, List.map_cons, List.map_nil, cat_i, cat_r, cat_n, Nat.reduceLeDiff, true_and, and_true, decide_true, Option.toList_some, Option.toList_none, and_self, Nat.le_refl, ha, hb, mj_alen, ka_0, c1, mj_vr]
/-- places go .. k - 1 move up by one -/
def z_up (go : Nat) : Nat → (Nat → Int32) → (Nat → Int32)
  | 0, f => f
  | j + 1, f => z_up go j (upd f (go + j + 1) (f (go + j)))
theorem z_going_loop {a b n go : Nat} {sz x : Value} (hab : a ≠ b) (ha : σ.2.2 a = some (.inr (8, [.ref b, sz, .int (nI go)]))) : ∀ (j : Nat) (f : Nat → Int32), go + j < 25 →
    (mj_wp (tb ar) 38 (18, [some (.ref a), some x, some (.int (nI (go + j)))], [], mj_up σ b (w_ia ar 25 f)) Q ↔ mj_wp (tb ar) 38 (46, [some (.ref a), some x, some (.int (nI go))], [], mj_up σ b (w_ia ar 25 (z_up go j f))) Q)
  | 0, f, h => by
    have a1 : ∀ e, (mj_up σ b e).2.2 a = σ.2.2 a := fun e => up_ne hab
    have c1 : nI go ≤ nI go := nI_le (Nat.le_refl _) (by omega)
    simp only [r38_18, r38_19, r38_20, r38_23, wo_nx, wo_ret, wo_ite, wo_call, bk_inl, mj_lda, mj_ldi, mj_sti, mj_sta, mj_b2, mj_br1, mj_br2, mj_brn, mj_ir, mj_rr, mj_nx, mj_gf, mj_fld, mj_k2, mj_rc, mj_cls, mj_dup, mj_inc, List.getElem?_cons_zero, List.getElem?_cons_succ, List.length_cons, List.length_nil, List.set_cons_succ, List.set_cons_zero, Nat.reduceAdd, Nat.reduceLT, if_true, if_false, mj_iif, decide_eq_true_eq, List.take_succ_cons, List.take_zero, List.reverse_cons, List.reverse_nil, List.nil_append, List.cons_append, List.drop_succ_cons, List.drop_zero, List.map_cons, List.map_nil, cat_i, cat_r, cat_n, Nat.reduceLeDiff, true_and, and_true, decide_true, Option.toList_some, Option.toList_none, and_self, Nat.le_refl, a1, ha, c1, z_up, Nat.add_zero]
  | j + 1, f, h => by
    have a1 : ∀ e, (mj_up σ b e).2.2 a = σ.2.2 a := fun e => up_ne hab
    have c1 : ¬ nI (go + (j + 1)) ≤ nI go := nI_ge (by omega) (by omega)
    have ih := z_going_loop (x := x) hab ha j (upd f (go + j + 1) (f (go + j))) (by omega) (n := n)
    have p1 : nI (go + (j + 1)) - 1 = nI (go + j) := nI_pred (go + j)
    have p2 : nI (go + (j + 1)) + (-1) = nI (go + j) := pk_m1 (go + j)
    have hix : mj_ix (nI (go + (j + 1))) 25 = true := ix_of (by omega) (by decide)
    have hcl : (nI (go + (j + 1))).toNatClampNeg = go + j + 1 := nI_clamp (by omega)
    have hix' : mj_ix (nI (go + j)) 25 = true := ix_of (by omega) (by decide)
    have hcl' : (nI (go + j)).toNatClampNeg = go + j := nI_clamp (by omega)
    rw [z_up]
    refine Iff.trans ?_ ih
    rw [r38_18]
    simp only [r38_19, r38_20, r38_23, r38_26, r38_27, r38_30, r38_31, r38_32, r38_35, r38_36, r38_37, r38_38, r38_39, r38_40, r38_43, wo_nx, wo_ret, wo_ite, wo_call, bk_inl, mj_lda, mj_ldi, mj_sti, mj_sta, mj_b2, mj_br1, mj_br2, mj_brn, mj_ir, mj_rr, mj_nx, mj_gf, mj_fld, mj_k2, mj_rc, mj_cls, mj_dup, mj_inc, List.getElem?_cons_zero, List.getElem?_cons_succ, List.length_cons, List.length_nil, List.set_cons_succ, List.set_cons_zero, Nat.reduceAdd, Nat.reduceLT, if_true, if_false, mj_iif, decide_eq_true_eq, List.take_succ_cons, List.take_zero, List.reverse_cons, List.reverse_nil, List.nil_append, List.cons_append, List.drop_succ_cons, List.drop_zero, List.map_cons, List.map_nil, cat_i, cat_r, cat_n, Nat.reduceLeDiff, true_and, and_true, decide_true, Option.toList_some, Option.toList_none, and_self, Nat.le_refl, a1, ha, c1, up_eq, up_up, p1, p2, mj_il, mj_is, mj_ia, mj_sa, ar_0, hix, hcl, hix', hcl']
theorem z_going {a b n go : Nat} {f : Nat → Int32} {x : Int32} (ha : σ.2.2 a = some (.inr (8, [.ref b, .int (nI n), .int (nI go)]))) (hb : σ.2.2 b = some (w_ia ar 25 f)) (hn : n < 25) (hg : go ≤ n) : mj_wp (tb ar) 38 (mj_en (tb ar) 38 [.ref a, .int x] σ) Q ↔ Q (.inl none) (mj_up (mj_up σ b (w_ia ar 25 (upd (z_up go (n - go) f) go x))) a (.inr (8, [.ref b, .int (nI (n + 1)), .int (nI (go + 1))]))) := by
  rw [en_38]
  have hab : a ≠ b := ne_arr ha hb
  have c1 : nI n < Int32.ofNat 25 := nI_lt (b := 25) hn (by decide)
  have a1 : ∀ e, (mj_up σ b e).2.2 a = σ.2.2 a := fun e => up_ne hab
  have hix : mj_ix (nI go) 25 = true := ix_of (by omega) (by decide)
  have hcl : (nI go).toNatClampNeg = go := nI_clamp (by omega)
  have hl := z_going_loop (ar := ar) (Q := Q) (n := n) (x := .int x) hab ha (n - go) f (by omega)
  rw [up_self hb, show go + (n - go) = n by omega] at hl
  simp only [r38_0, r38_1, r38_4, r38_5, r38_8, r38_9, r38_13, r38_14, r38_17, wo_nx, wo_ret, wo_ite, wo_call, bk_inl, mj_lda, mj_ldi, mj_sti, mj_sta, mj_b2, mj_br1, mj_br2, mj_brn, mj_ir, mj_rr, mj_nx, mj_gf, mj_fld, mj_k2, mj_rc, mj_cls, mj_dup, mj_inc, List.getElem?_cons_zero, List.getElem?_cons_succ, List.length_cons, List.length_nil, List.set_cons_succ, List.set_cons_zero, Nat.reduceAdd, Nat.reduceLT, if_true, if_false, mj_iif, decide_eq_true_eq, List.take_succ_cons, List.take_zero, List.reverse_cons, List.reverse_nil, List.nil_append, List.cons_append, List.drop_succ_cons, List.drop_zero, List.map_cons, List.map_nil, cat_i, cat_r, cat_n, Nat.reduceLeDiff, true_and, and_true, decide_true, Option.toList_some, Option.toList_none, and_self, Nat.le_refl, ha, hb, mj_alen, ka_0, c1]
  rw [hl]
  simp only [r38_46, r38_47, r38_50, r38_51, r38_54, r38_55, r38_56, r38_57, r38_58, r38_61, r38_62, r38_63, r38_66, r38_67, r38_68, r38_71, r38_72, r38_73, r38_76, wo_nx, wo_ret, wo_ite, wo_call, bk_inl, mj_lda, mj_ldi, mj_sti, mj_sta, mj_b2, mj_br1, mj_br2, mj_brn, mj_ir, mj_rr, mj_nx, mj_gf, mj_fld, mj_k2, mj_rc, mj_cls, mj_dup, mj_inc, List.getElem?_cons_zero, List.getElem?_cons_succ, List.length_cons, List.length_nil, List.set_cons_succ, List.set_cons_zero, Nat.reduceAdd, Nat.reduceLT, if_true, if_false, mj_iif, decide_eq_true_eq, List.take_succ_cons, List.take_zero, List.reverse_cons, List.reverse_nil, List.nil_append, List.cons_append, List.drop_succ_cons, List.drop_zero, List.map_cons, List.map_nil, cat_i, cat_r, cat_n, Nat.reduceLeDiff, true_and, and_true, decide_true, Option.toList_some, Option.toList_none, and_self, Nat.le_refl, a1, ha, up_eq, up_up, mj_is, mj_ia, mj_sa, ar_0, hix, hcl, mj_pf, mj_sf, mj_fit, Option.isSome_some, nI_1, mj_vr]
/-- places 0 .. n - 1 get what is one above -/
def z_dn (f : Nat → Int32) (n : Nat) : Nat → Int32 := fun j => if j < n then f (j + 1) else f j
theorem z_dn_s {f : Nat → Int32} {k : Nat} : upd (z_dn f k) k (z_dn f k (k + 1)) = z_dn f (k + 1) := by
  funext j
  unfold upd z_dn
  by_cases hj : j = k
  · subst hj
    rw [if_pos rfl, if_neg (by omega), if_pos (by omega)]
  · rw [if_neg hj]
    by_cases h2 : j < k
    · rw [if_pos h2, if_pos (by omega)]
    · rw [if_neg h2, if_neg (by omega)]
theorem z_take_loop {a b n : Nat} {f : Nat → Int32} {go x : Value} (hab : a ≠ b) (ha : σ.2.2 a = some (.inr (8, [.ref b, .int (nI n), go]))) (hn : n < 25) : ∀ (j k : Nat), k + j = n →
    (mj_wp (tb ar) 39 (30, [some (.ref a), some x, some (.int (nI k))], [], mj_up σ b (w_ia ar 25 (z_dn f k))) Q ↔ mj_wp (tb ar) 39 (58, [some (.ref a), some x, some (.int (nI n))], [], mj_up σ b (w_ia ar 25 (z_dn f n))) Q)
  | 0, k, h => by
    have h' : k = n := by omega
    subst h'
    have a1 : ∀ e, (mj_up σ b e).2.2 a = σ.2.2 a := fun e => up_ne hab
    have c1 : nI k ≤ nI k := nI_le (Nat.le_refl _) (by omega)
    simp only [r39_30, r39_31, r39_32, r39_35, wo_nx, wo_ret, wo_ite, wo_call, bk_inl, mj_lda, mj_ldi, mj_sti, mj_sta, mj_b2, mj_br1, mj_br2, mj_brn, mj_ir, mj_rr, mj_nx, mj_gf, mj_fld, mj_k2, mj_rc, mj_cls, mj_dup, mj_inc, List.getElem?_cons_zero, List.getElem?_cons_succ, List.length_cons, List.length_nil, List.set_cons_succ, List.set_cons_zero, Nat.reduceAdd, Nat.reduceLT, if_true, if_false, mj_iif, decide_eq_true_eq, List.take_succ_cons, List.take_zero, List.reverse_cons, List.reverse_nil, List.nil_append, List.cons_append, List.drop_succ_cons, List.drop_zero, List.map_cons, List.map_nil, cat_i, cat_r, cat_n, Nat.reduceLeDiff, true_and, and_true, decide_true, Option.toList_some, Option.toList_none, and_self, Nat.le_refl, a1, ha, c1]
  | j + 1, k, h => by
    have a1 : ∀ e, (mj_up σ b e).2.2 a = σ.2.2 a := fun e => up_ne hab
    have c1 : ¬ nI n ≤ nI k := nI_ge (by omega) (by omega)
    have ih := z_take_loop (x := x) (f := f) hab ha hn j (k + 1) (by omega)
    have hix : mj_ix (nI (k + 1)) 25 = true := ix_of (by omega) (by decide)
    have hcl : (nI (k + 1)).toNatClampNeg = k + 1 := nI_clamp (by omega)
    have hix' : mj_ix (nI k) 25 = true := ix_of (by omega) (by decide)
    have hcl' : (nI k).toNatClampNeg = k := nI_clamp (by omega)
    refine Iff.trans ?_ ih
    rw [r39_30]
    simp only [r39_31, r39_32, r39_35, r39_38, r39_39, r39_42, r39_43, r39_44, r39_47, r39_48, r39_49, r39_50, r39_51, r39_52, r39_55, wo_nx, wo_ret, wo_ite, wo_call, bk_inl, mj_lda, mj_ldi, mj_sti, mj_sta, mj_b2, mj_br1, mj_br2, mj_brn, mj_ir, mj_rr, mj_nx, mj_gf, mj_fld, mj_k2, mj_rc, mj_cls, mj_dup, mj_inc, List.getElem?_cons_zero, List.getElem?_cons_succ, List.length_cons, List.length_nil, List.set_cons_succ, List.set_cons_zero, Nat.reduceAdd, Nat.reduceLT, if_true, if_false, mj_iif, decide_eq_true_eq, List.take_succ_cons, List.take_zero, List.reverse_cons, List.reverse_nil, List.nil_append, List.cons_append, List.drop_succ_cons, List.drop_zero, List.map_cons, List.map_nil, cat_i, cat_r, cat_n, Nat.reduceLeDiff, true_and, and_true, decide_true, Option.toList_some, Option.toList_none, and_self, Nat.le_refl, a1, ha, c1, up_eq, up_up, nI_1, mj_il, mj_is, mj_ia, mj_sa, ar_0, hix, hcl, hix', hcl', z_dn_s]
theorem z_take {a b n go : Nat} {f : Nat → Int32} (ha : σ.2.2 a = some (.inr (8, [.ref b, .int (nI (n + 1)), .int (nI go)]))) (hb : σ.2.2 b = some (w_ia ar 25 f)) (hn : n < 25) (hg : go ≤ n + 1) : mj_wp (tb ar) 39 (mj_en (tb ar) 39 [.ref a] σ) Q ↔ Q (.inl (some (.int (f 0)))) (mj_up (mj_up σ b (w_ia ar 25 (z_dn f n))) a (.inr (8, [.ref b, .int (nI n), .int (nI (go - 1))]))) := by
  rw [en_39]
  have hab : a ≠ b := ne_arr ha hb
  have c0 : ¬ nI (n + 1) = 0 := nI_ne0 (by omega) (by omega)
  have hix : mj_ix 0 25 = true := by decide
  have hcl : (0 : Int32).toNatClampNeg = 0 := by decide
  have b1 : ∀ e, (mj_up σ a e).2.2 b = some (w_ia ar 25 f) := fun e => by rw [up_ne (Ne.symm hab)]; exact hb
  have hl := z_take_loop (ar := ar) (Q := Q) (f := f) (x := .int (f 0)) (σ := mj_up σ a (.inr (8, [.ref b, .int (nI n), .int (nI go)]))) hab up_eq hn n 0 (by omega)
  have e0 : z_dn f 0 = f := by funext j; exact if_neg (by omega)
  rw [e0, up_self (b1 _), nI_0] at hl
  simp only [r39_0, r39_1, r39_4, r39_11, r39_12, r39_15, r39_16, r39_17, r39_18, r39_19, r39_20, r39_23, r39_24, r39_25, r39_28, r39_29, wo_nx, wo_ret, wo_ite, wo_call, bk_inl, mj_lda, mj_ldi, mj_sti, mj_sta, mj_b2, mj_br1, mj_br2, mj_brn, mj_ir, mj_rr, mj_nx, mj_gf, mj_fld, mj_k2, mj_rc, mj_cls, mj_dup, mj_inc, List.getElem?_cons_zero, List.getElem?_cons_succ, List.length_cons, List.length_nil, List.set_cons_succ, List.set_cons_zero, Nat.reduceAdd, Nat.reduceLT, if_true, if_false, mj_iif, decide_eq_true_eq, List.take_succ_cons, List.take_zero, List.reverse_cons, List.reverse_nil, List.nil_append, List.cons_append, List.drop_succ_cons, List.drop_zero, List.map_cons, List.map_nil, cat_i, cat_r, cat_n, Nat.reduceLeDiff, true_and, and_true, decide_true, Option.toList_some, Option.toList_none, and_self, Nat.le_refl, ha, hb, c0, ne_eq, not_false_eq_true, mj_il, mj_ia, ar_0, hix, hcl, mj_pf, mj_sf, mj_fit, Option.isSome_some, nI_pred]
  rw [hl, up_cm hab]
  cases go with
  | zero =>
    have c1 : nI 0 ≤ (0 : Int32) := by decide
    simp only [r39_58, r39_59, r39_62, r39_75, r39_76, wo_nx, wo_ret, wo_ite, wo_call, bk_inl, mj_lda, mj_ldi, mj_sti, mj_sta, mj_b2, mj_br1, mj_br2, mj_brn, mj_ir, mj_rr, mj_nx, mj_gf, mj_fld, mj_k2, mj_rc, mj_cls, mj_dup, mj_inc, List.getElem?_cons_zero, List.getElem?_cons_succ, List.length_cons, List.length_nil, List.set_cons_succ, List.set_cons_zero, Nat.reduceAdd, Nat.reduceLT, if_true, if_false, mj_iif, decide_eq_true_eq, List.take_succ_cons, List.take_zero, List.reverse_cons, List.reverse_nil, List.nil_append, List.cons_append, List.drop_succ_cons, List.drop_zero, List.map_cons, List.map_nil, cat_i, cat_r, cat_n, Nat.reduceLeDiff, true_and, and_true, decide_true, Option.toList_some, Option.toList_none, and_self, Nat.le_refl, up_eq, c1, Nat.zero_sub]
  | succ g =>
    have c1 : ¬ nI (g + 1) ≤ (0 : Int32) := nI_nle (by omega) (by omega)
    simp only [r39_58, r39_59, r39_62, r39_65, r39_66, r39_67, r39_70, r39_71, r39_72, r39_75, r39_76, wo_nx, wo_ret, wo_ite, wo_call, bk_inl, mj_lda, mj_ldi, mj_sti, mj_sta, mj_b2, mj_br1, mj_br2, mj_brn, mj_ir, mj_rr, mj_nx, mj_gf, mj_fld, mj_k2, mj_rc, mj_cls, mj_dup, mj_inc, List.getElem?_cons_zero, List.getElem?_cons_succ, List.length_cons, List.length_nil, List.set_cons_succ, List.set_cons_zero, Nat.reduceAdd, Nat.reduceLT, if_true, if_false, mj_iif, decide_eq_true_eq, List.take_succ_cons, List.take_zero, List.reverse_cons, List.reverse_nil, List.nil_append, List.cons_append, List.drop_succ_cons, List.drop_zero, List.map_cons, List.map_nil, cat_i, cat_r, cat_n, Nat.reduceLeDiff, true_and, and_true, decide_true, Option.toList_some, Option.toList_none, and_self, Nat.le_refl, up_eq, up_up, c1, mj_pf, mj_sf, mj_fit, Option.isSome_some, nI_pred, Nat.add_sub_cancel]
theorem z_take0 {a : Nat} {y z : Value} (ha : σ.2.2 a = some (.inr (8, [y, .int (nI 0), z]))) : mj_wp (tb ar) 39 (mj_en (tb ar) 39 [.ref a] σ) Q ↔ Q (.inl (some (.int (-1000)))) σ := by
  rw [en_39]
  simp only [r39_0, r39_1, r39_4, r39_7, r39_10, wo_nx, wo_ret, wo_ite, wo_call, bk_inl, mj_lda, mj_ldi, mj_sti, mj_sta, mj_b2, mj_br1, mj_br2, mj_brn, mj_ir, mj_rr, mj_nx, mj_gf, mj_fld, mj_k2, mj_rc, mj_cls, mj_dup, mj_inc, List.getElem?_cons_zero, List.getElem?_cons_succ, List.length_cons, List.length_nil, List.set_cons_succ, List.set_cons_zero, Nat.reduceAdd, Nat.reduceLT, if_true, if_false, mj_iif, decide_eq_true_eq, List.take_succ_cons, List.take_zero, List.reverse_cons, List.reverse_nil, List.nil_append, List.cons_append, List.drop_succ_cons, List.drop_zero, List.map_cons, List.map_nil, cat_i, cat_r, cat_n, Nat.reduceLeDiff, true_and, and_true, decide_true, Option.toList_some, Option.toList_none, and_self, Nat.le_refl, ha, nI_0, ne_eq, not_true_eq_false]
def z_bits (f : Nat → Int32) : Nat → Int32
  | 0 => 0
  | n + 1 => z_bits f n ||| go_bit (f n)
theorem z_bits_loop {a b go : Nat} {f : Nat → Int32} {sz : Value} (ha : σ.2.2 a = some (.inr (8, [.ref b, sz, .int (nI go)]))) (hb : σ.2.2 b = some (w_ia ar 25 f)) (hg : go ≤ 25) : ∀ (j k : Nat), k + j = go → (mj_wp (tb ar) 40 (4, [some (.ref a), some (.int (z_bits f k)), some (.int (nI k))], [], σ) Q ↔ Q (.inl (some (.int (z_bits f go)))) σ)
  | 0, k, h => by
    have h' : k = go := by omega
    subst h'
    have c1 : nI k ≤ nI k := nI_le (Nat.le_refl _) (by omega)
    simp only [r40_4, r40_5, r40_6, r40_9, r40_30, r40_31, wo_nx, wo_ret, wo_ite, wo_call, bk_inl, mj_lda, mj_ldi, mj_sti, mj_sta, mj_b2, mj_br1, mj_br2, mj_brn, mj_ir, mj_rr, mj_nx, mj_gf, mj_fld, mj_k2, mj_rc, mj_cls, mj_dup, mj_inc, List.getElem?_cons_zero, List.getElem?_cons_succ, List.length_cons, List.length_nil, List.set_cons_succ, List.set_cons_zero, Nat.reduceAdd, Nat.reduceLT, if_true, if_false, mj_iif, decide_eq_true_eq, List.take_succ_cons, List.take_zero, List.reverse_cons, List.reverse_nil, List.nil_append, List.cons_append, List.drop_succ_cons, List.drop_zero, List.map_cons, List.map_nil, cat_i, cat_r, cat_n, Nat.reduceLeDiff, true_and, and_true, decide_true, Option.toList_some, Option.toList_none, and_self, Nat.le_refl, ha, c1]
  | j + 1, k, h => by
    have c1 : ¬ nI go ≤ nI k := nI_ge (by omega) (by omega)
    have ih := z_bits_loop ha hb hg j (k + 1) (by omega)
    have hix' : mj_ix (nI k) 25 = true := ix_of (by omega) (by decide)
    have hcl' : (nI k).toNatClampNeg = k := nI_clamp (by omega)
    refine Iff.trans ?_ ih
    rw [r40_4]
    simp only [r40_5, r40_6, r40_9, r40_12, r40_13, r40_14, r40_17, r40_18, r40_19, r40_22, r40_23, r40_24, r40_27, wo_nx, wo_ret, wo_ite, wo_call, bk_inl, mj_lda, mj_ldi, mj_sti, mj_sta, mj_b2, mj_br1, mj_br2, mj_brn, mj_ir, mj_rr, mj_nx, mj_gf, mj_fld, mj_k2, mj_rc, mj_cls, mj_dup, mj_inc, List.getElem?_cons_zero, List.getElem?_cons_succ, List.length_cons, List.length_nil, List.set_cons_succ, List.set_cons_zero, Nat.reduceAdd, Nat.reduceLT, if_true, if_false, mj_iif, decide_eq_true_eq, List.take_succ_cons, List.take_zero, List.reverse_cons, List.reverse_nil, List.nil_append, List.cons_append, List.drop_succ_cons, List.drop_zero, List.map_cons, List.map_nil, cat_i, cat_r, cat_n, Nat.reduceLeDiff, true_and, and_true, decide_true, Option.toList_some, Option.toList_none, and_self, Nat.le_refl, ha, hb, c1, mj_il, mj_ia, ar_0, hix', hcl', mL_86, g_bit, nI_1, z_bits]
theorem z_going_bits {a b go : Nat} {f : Nat → Int32} {sz : Value} (ha : σ.2.2 a = some (.inr (8, [.ref b, sz, .int (nI go)]))) (hb : σ.2.2 b = some (w_ia ar 25 f)) (hg : go ≤ 25) : mj_wp (tb ar) 40 (mj_en (tb ar) 40 [.ref a] σ) Q ↔ Q (.inl (some (.int (z_bits f go)))) σ := by
  rw [en_40]
  have hl := z_bits_loop (ar := ar) (Q := Q) ha hb hg go 0 (by omega)
  refine Iff.trans ?_ hl
  simp only [r40_0, r40_1, r40_2, r40_3, wo_nx, wo_ret, wo_ite, wo_call, bk_inl, mj_lda, mj_ldi, mj_sti, mj_sta, mj_b2, mj_br1, mj_br2, mj_brn, mj_ir, mj_rr, mj_nx, mj_gf, mj_fld, mj_k2, mj_rc, mj_cls, mj_dup, mj_inc, List.getElem?_cons_zero, List.getElem?_cons_succ, List.length_cons, List.length_nil, List.set_cons_succ, List.set_cons_zero, Nat.reduceAdd, Nat.reduceLT, if_true, if_false, mj_iif, decide_eq_true_eq, List.take_succ_cons, List.take_zero, List.reverse_cons, List.reverse_nil, List.nil_append, List.cons_append, List.drop_succ_cons, List.drop_zero, List.map_cons, List.map_nil, cat_i, cat_r, cat_n, Nat.reduceLeDiff, true_and, and_true, decide_true, Option.toList_some, Option.toList_none, and_self, Nat.le_refl, z_bits, nI_0]
end WA
