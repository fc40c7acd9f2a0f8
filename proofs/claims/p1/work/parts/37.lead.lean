section LE
variable {ar : Nat → ClassId} {σ : mj_S} {Q : (Option Value ⊕ String) → mj_S → Prop}
theorem en_137 {a b : Value} : mj_en (tb ar) 137 [a, b] σ = (0, [some a, some b, none, none], [], σ) := rfl
theorem mL_137 : mj_mL (tb ar) 137 = 4 := rfl
theorem mL_2 : mj_mL (tb ar) 2 = 2 := rfl
theorem en_1 {a b : Value} : mj_en (tb ar) 1 [a, b] σ = (0, [some a, some b], [], σ) := rfl
theorem en_2 {a : Value} : mj_en (tb ar) 2 [a] σ = (0, [some a, none], [], σ) := rfl
theorem en_3 {a b c : Value} : mj_en (tb ar) 3 [a, b, c] σ = (0, [some a, some b, some c], [], σ) := rfl
theorem en_4 {a b : Value} : mj_en (tb ar) 4 [a, b] σ = (0, [some a, some b, none, none], [], σ) := rfl
theorem en_5 {a b c : Value} : mj_en (tb ar) 5 [a, b, c] σ = (0, [some a, some b, some c, none, none, none], [], σ) := rfl
theorem en_6 {a b c : Value} : mj_en (tb ar) 6 [a, b, c] σ = (0, [some a, some b, some c, none], [], σ) := rfl
theorem en_7 {a b : Value} : mj_en (tb ar) 7 [a, b] σ = (0, [some a, some b], [], σ) := rfl
theorem en_8 {a b c : Value} : mj_en (tb ar) 8 [a, b, c] σ = (0, [some a, some b, some c], [], σ) := rfl
theorem kr_9 : mj_kr (tb ar) (ar 9) = true := by
  unfold mj_kr
  rw [List.any_eq_true]
  exact ⟨7, (show 7 ∈ ([3, 4, 5, 7] : List Nat) from by decide), by simp [mj_ar, tb]⟩
theorem ka_9 : mj_ka (tb ar) (ar 9) = true := by unfold mj_ka; rw [kr_9]; simp
/-- places 0 .. n - 1 are x -/
def w_fl (f : Nat → Int32) (x : Int32) (n : Nat) : Nat → Int32 := fun j => if j < n then x else f j
theorem fl_0 {f : Nat → Int32} {x : Int32} : w_fl f x 0 = f := by funext j; exact if_neg (by omega)
theorem fl_s {f : Nat → Int32} {x : Int32} {k : Nat} : upd (w_fl f x k) k x = w_fl f x (k + 1) := by
  funext j
  unfold upd w_fl
  by_cases hj : j = k
  · subst hj
    rw [if_pos rfl, if_pos (by omega)]
  · rw [if_neg hj]
    by_cases h2 : j < k
    · rw [if_pos h2, if_pos (by omega)]
    · rw [if_neg h2, if_neg (by omega)]
theorem f_fill_loop {a n : Nat} {f : Nat → Int32} {x : Int32} (hn : n < 2 ^ 31) : ∀ (j k : Nat), k + j = n →
    (mj_wp (tb ar) 137 (5, [some (.ref a), some (.int x), some (.int (nI k)), some (.int (nI n))], [], mj_up σ a (w_ia ar n (w_fl f x k))) Q ↔ Q (.inl none) (mj_up σ a (w_ia ar n (w_fl f x n))))
  | 0, k, h => by
    have h' : k = n := by omega
    subst h'
    have c1 : nI k ≤ nI k := nI_le (Nat.le_refl _) (by omega)
    simp only [r137_5, r137_6, r137_7, r137_20, wo_nx, wo_ret, wo_ite, wo_call, bk_inl, mj_lda, mj_ldi, mj_sti, mj_sta, mj_b2, mj_br1, mj_br2, mj_brn, mj_ir, mj_rr, mj_nx, mj_gf, mj_fld, mj_k2, mj_rc, mj_cls, mj_dup, mj_inc, List.getElem?_cons_zero, List.getElem?_cons_succ, List.length_cons, List.length_nil, List.set_cons_succ, List.set_cons_zero, Nat.reduceAdd, Nat.reduceLT, if_true, if_false, mj_iif, decide_eq_true_eq, List.take_succ_cons, List.take_zero, List.reverse_cons, List.reverse_nil, List.nil_append, List.cons_append, List.drop_succ_cons, List.drop_zero, List.map_cons, List.map_nil, cat_i, cat_r, cat_n, Nat.reduceLeDiff, true_and, and_true, decide_true, Option.toList_some, Option.toList_none, and_self, Nat.le_refl, c1, mj_vr]
  | j + 1, k, h => by
    have c1 : ¬ nI n ≤ nI k := nI_ge (by omega) (by omega)
    have ih := f_fill_loop (f := f) (x := x) (a := a) hn j (k + 1) (by omega)
    have hix' : mj_ix (nI k) n = true := ix_of (by omega) hn
    have hcl' : (nI k).toNatClampNeg = k := nI_clamp (by omega)
    refine Iff.trans ?_ ih
    rw [r137_5]
    simp only [r137_6, r137_7, r137_10, r137_11, r137_12, r137_13, r137_14, r137_17, wo_nx, wo_ret, wo_ite, wo_call, bk_inl, mj_lda, mj_ldi, mj_sti, mj_sta, mj_b2, mj_br1, mj_br2, mj_brn, mj_ir, mj_rr, mj_nx, mj_gf, mj_fld, mj_k2, mj_rc, mj_cls, mj_dup, mj_inc, List.getElem?_cons_zero, List.getElem?_cons_succ, List.length_cons, List.length_nil, List.set_cons_succ, List.set_cons_zero, Nat.reduceAdd, Nat.reduceLT, if_true, if_false, mj_iif, decide_eq_true_eq, List.take_succ_cons, List.take_zero, List.reverse_cons, List.reverse_nil, List.nil_append, List.cons_append, List.drop_succ_cons, List.drop_zero, List.map_cons, List.map_nil, cat_i, cat_r, cat_n, Nat.reduceLeDiff, true_and, and_true, decide_true, Option.toList_some, Option.toList_none, and_self, Nat.le_refl, c1, up_eq, up_up, nI_1, mj_is, mj_ia, mj_sa, ar_0, hix', hcl', fl_s]
theorem f_fill {a n : Nat} {f : Nat → Int32} {x : Int32} (ha : σ.2.2 a = some (w_ia ar n f)) (hn : n < 2 ^ 31) : mj_wp (tb ar) 137 (mj_en (tb ar) 137 [.ref a, .int x] σ) Q ↔ Q (.inl none) (mj_up σ a (w_ia ar n (w_fl f x n))) := by
  rw [en_137]
  have hl := f_fill_loop (ar := ar) (Q := Q) (σ := σ) (f := f) (x := x) (a := a) hn n 0 (by omega)
  rw [fl_0, up_self ha, nI_0] at hl
  refine Iff.trans ?_ hl
  simp only [r137_0, r137_1, r137_2, r137_3, r137_4, wo_nx, wo_ret, wo_ite, wo_call, bk_inl, mj_lda, mj_ldi, mj_sti, mj_sta, mj_b2, mj_br1, mj_br2, mj_brn, mj_ir, mj_rr, mj_nx, mj_gf, mj_fld, mj_k2, mj_rc, mj_cls, mj_dup, mj_inc, List.getElem?_cons_zero, List.getElem?_cons_succ, List.length_cons, List.length_nil, List.set_cons_succ, List.set_cons_zero, Nat.reduceAdd, Nat.reduceLT, if_true, if_false, mj_iif, decide_eq_true_eq, List.take_succ_cons, List.take_zero, List.reverse_cons, List.reverse_nil, List.nil_append, List.cons_append, List.drop_succ_cons, List.drop_zero, List.map_cons, List.map_nil, cat_i, cat_r, cat_n, Nat.reduceLeDiff, true_and, and_true, decide_true, Option.toList_some, Option.toList_none, and_self, Nat.le_refl, ha, mj_alen, ka_0]
  rfl
theorem e_end_loop {a b : Nat} {p : Nat → Int32} {y : Value} {fs : List Value} (hab : a ≠ b) (ha : σ.2.2 a = some (.inr (0, y :: .ref b :: fs))) : ∀ (j k : Nat), k + j = 100 →
    (mj_wp (tb ar) 2 (10, [some (.ref a), some (.int (nI k))], [], mj_up σ b (w_ba ar 100 (w_fl p 0 k))) Q ↔ mj_wp (tb ar) 2 (29, [some (.ref a), some (.int (nI 100))], [], mj_up σ b (w_ba ar 100 (w_fl p 0 100))) Q)
  | 0, k, h => by
    have h' : k = 100 := by omega
    subst h'
    have c1 : (100 : Int32) ≤ nI 100 := by decide
    simp only [r2_10, r2_11, r2_13, wo_nx, wo_ret, wo_ite, wo_call, bk_inl, mj_lda, mj_ldi, mj_sti, mj_sta, mj_b2, mj_br1, mj_br2, mj_brn, mj_ir, mj_rr, mj_nx, mj_gf, mj_fld, mj_k2, mj_rc, mj_cls, mj_dup, mj_inc, List.getElem?_cons_zero, List.getElem?_cons_succ, List.length_cons, List.length_nil, List.set_cons_succ, List.set_cons_zero, Nat.reduceAdd, Nat.reduceLT, if_true, if_false, mj_iif, decide_eq_true_eq, List.take_succ_cons, List.take_zero, List.reverse_cons, List.reverse_nil, List.nil_append, List.cons_append, List.drop_succ_cons, List.drop_zero, List.map_cons, List.map_nil, cat_i, cat_r, cat_n, Nat.reduceLeDiff, true_and, and_true, decide_true, Option.toList_some, Option.toList_none, and_self, Nat.le_refl, c1]
  | j + 1, k, h => by
    have a1 : ∀ e, (mj_up σ b e).2.2 a = σ.2.2 a := fun e => up_ne hab
    have c1 : ¬ (100 : Int32) ≤ nI k := by rw [← nI_100]; exact nI_ge (by omega) (by decide)
    have ih := e_end_loop (p := p) hab ha j (k + 1) (by omega)
    have hix' : mj_ix (nI k) 100 = true := ix_of (by omega) (by decide)
    have hcl' : (nI k).toNatClampNeg = k := nI_clamp (by omega)
    refine Iff.trans ?_ ih
    rw [r2_10]
    simp only [r2_11, r2_13, r2_16, r2_17, r2_20, r2_21, r2_22, r2_23, r2_26, wo_nx, wo_ret, wo_ite, wo_call, bk_inl, mj_lda, mj_ldi, mj_sti, mj_sta, mj_b2, mj_br1, mj_br2, mj_brn, mj_ir, mj_rr, mj_nx, mj_gf, mj_fld, mj_k2, mj_rc, mj_cls, mj_dup, mj_inc, List.getElem?_cons_zero, List.getElem?_cons_succ, List.length_cons, List.length_nil, List.set_cons_succ, List.set_cons_zero, Nat.reduceAdd, Nat.reduceLT, if_true, if_false, mj_iif, decide_eq_true_eq, List.take_succ_cons, List.take_zero, List.reverse_cons, List.reverse_nil, List.nil_append, List.cons_append, List.drop_succ_cons, List.drop_zero, List.map_cons, List.map_nil, cat_i, cat_r, cat_n, Nat.reduceLeDiff, true_and, and_true, decide_true, Option.toList_some, Option.toList_none, and_self, Nat.le_refl, c1, a1, ha, up_eq, up_up, nI_1, mj_zs, mj_ia, mj_sa, ar_1, hix', hcl', fl_s, true_or]
theorem e_end0 {a : Nat} {v0 v1 v2 v3 v4 v5 : Value} {fs : List Value} (ha : σ.2.2 a = some (.inr (0, v0 :: v1 :: v2 :: v3 :: v4 :: v5 :: .int 0 :: fs))) : mj_wp (tb ar) 2 (mj_en (tb ar) 2 [.ref a] σ) Q ↔ Q (.inl none) σ := by
  rw [en_2]
  simp only [r2_0, r2_1, r2_4, r2_7, wo_nx, wo_ret, wo_ite, wo_call, bk_inl, mj_lda, mj_ldi, mj_sti, mj_sta, mj_b2, mj_br1, mj_br2, mj_brn, mj_ir, mj_rr, mj_nx, mj_gf, mj_fld, mj_k2, mj_rc, mj_cls, mj_dup, mj_inc, List.getElem?_cons_zero, List.getElem?_cons_succ, List.length_cons, List.length_nil, List.set_cons_succ, List.set_cons_zero, Nat.reduceAdd, Nat.reduceLT, if_true, if_false, mj_iif, decide_eq_true_eq, List.take_succ_cons, List.take_zero, List.reverse_cons, List.reverse_nil, List.nil_append, List.cons_append, List.drop_succ_cons, List.drop_zero, List.map_cons, List.map_nil, cat_i, cat_r, cat_n, Nat.reduceLeDiff, true_and, and_true, decide_true, Option.toList_some, Option.toList_none, and_self, Nat.le_refl, ha, ne_eq, not_true_eq_false, mj_vr]
theorem e_end {a pp ta sk to : Nat} {p f3 f4 f5 : Nat → Int32} {v0 v2 : Value} {ro i7 i8 i9 i10 i11 i12 : Int32} (h43 : sk ≠ ta) (h53 : to ≠ ta) (h54 : to ≠ sk) (ha : σ.2.2 a = some (.inr (0, [v0, .ref pp, v2, .ref ta, .ref sk, .ref to, .int ro, .int i7, .int i8, .int i9, .int i10, .int i11, .int i12]))) (hp : σ.2.2 pp = some (w_ba ar 100 p)) (h3 : σ.2.2 ta = some (w_ia ar 100 f3)) (h4 : σ.2.2 sk = some (w_ia ar 100 f4)) (h5 : σ.2.2 to = some (w_ia ar 5 f5)) (h3p : ta ≠ pp) (h4p : sk ≠ pp) (h5p : to ≠ pp) (hr : ¬ ro = 0) : mj_wp (tb ar) 2 (mj_en (tb ar) 2 [.ref a] σ) Q ↔ Q (.inl none) (mj_up (mj_up (mj_up (mj_up (mj_up σ pp (w_ba ar 100 (w_fl p 0 100))) ta (w_ia ar 100 (w_fl f3 0 100))) sk (w_ia ar 100 (w_fl f4 0 100))) to (w_ia ar 5 (w_fl f5 0 5))) a (.inr (0, [v0, .ref pp, v2, .ref ta, .ref sk, .ref to, .int 0, .int 0, .int 0, .int 0, .int 0, .int 0, .int 0]))) := by
  rw [en_2]
  have hap : a ≠ pp := ne_arr ha hp
  have ha3 : a ≠ ta := ne_arr ha h3
  have ha4 : a ≠ sk := ne_arr ha h4
  have ha5 : a ≠ to := ne_arr ha h5
  have hl := e_end_loop (ar := ar) (Q := Q) (p := p) hap ha 100 0 (by omega)
  rw [fl_0, up_self hp, nI_0] at hl
  simp only [r2_0, r2_1, r2_4, r2_8, r2_9, wo_nx, wo_ret, wo_ite, wo_call, bk_inl, mj_lda, mj_ldi, mj_sti, mj_sta, mj_b2, mj_br1, mj_br2, mj_brn, mj_ir, mj_rr, mj_nx, mj_gf, mj_fld, mj_k2, mj_rc, mj_cls, mj_dup, mj_inc, List.getElem?_cons_zero, List.getElem?_cons_succ, List.length_cons, List.length_nil, List.set_cons_succ, List.set_cons_zero, Nat.reduceAdd, Nat.reduceLT, if_true, if_false, mj_iif, decide_eq_true_eq, List.take_succ_cons, List.take_zero, List.reverse_cons, List.reverse_nil, List.nil_append, List.cons_append, List.drop_succ_cons, List.drop_zero, List.map_cons, List.map_nil, cat_i, cat_r, cat_n, Nat.reduceLeDiff, true_and, and_true, decide_true, Option.toList_some, Option.toList_none, and_self, Nat.le_refl, ha, hr, ne_eq, not_false_eq_true]
  rw [hl]
  have a1 : ∀ e, (mj_up σ pp e).2.2 a = σ.2.2 a := fun e => up_ne hap
  have a2 : ∀ e e2, (mj_up (mj_up σ pp e) ta e2).2.2 a = σ.2.2 a := fun e e2 => by rw [up_ne ha3, a1]
  have a3 : ∀ e e2 e3, (mj_up (mj_up (mj_up σ pp e) ta e2) sk e3).2.2 a = σ.2.2 a := fun e e2 e3 => by rw [up_ne ha4, a2]
  have a4 : ∀ e e2 e3 e4, (mj_up (mj_up (mj_up (mj_up σ pp e) ta e2) sk e3) to e4).2.2 a = σ.2.2 a := fun e e2 e3 e4 => by rw [up_ne ha5, a3]
  have b3 : ∀ e, (mj_up σ pp e).2.2 ta = some (w_ia ar 100 f3) := fun e => by rw [up_ne h3p]; exact h3
  have b4 : ∀ e e2, (mj_up (mj_up σ pp e) ta e2).2.2 sk = some (w_ia ar 100 f4) := fun e e2 => by rw [up_ne h43, up_ne h4p]; exact h4
  have b5 : ∀ e e2 e3, (mj_up (mj_up (mj_up σ pp e) ta e2) sk e3).2.2 to = some (w_ia ar 5 f5) := fun e e2 e3 => by rw [up_ne h54, up_ne h53, up_ne h5p]; exact h5
  simp only [r2_29, r2_30, r2_33, r2_34, wo_nx, wo_ret, wo_ite, wo_call, bk_inl, mj_lda, mj_ldi, mj_sti, mj_sta, mj_b2, mj_br1, mj_br2, mj_brn, mj_ir, mj_rr, mj_nx, mj_gf, mj_fld, mj_k2, mj_rc, mj_cls, mj_dup, mj_inc, List.getElem?_cons_zero, List.getElem?_cons_succ, List.length_cons, List.length_nil, List.set_cons_succ, List.set_cons_zero, Nat.reduceAdd, Nat.reduceLT, if_true, if_false, mj_iif, decide_eq_true_eq, List.take_succ_cons, List.take_zero, List.reverse_cons, List.reverse_nil, List.nil_append, List.cons_append, List.drop_succ_cons, List.drop_zero, List.map_cons, List.map_nil, cat_i, cat_r, cat_n, Nat.reduceLeDiff, true_and, and_true, decide_true, Option.toList_some, Option.toList_none, and_self, Nat.le_refl, a1, ha, mL_137, f_fill (b3 _) (show 100 < 2 ^ 31 by decide)]
  simp only [r2_37, r2_38, r2_41, r2_42, wo_nx, wo_ret, wo_ite, wo_call, bk_inl, mj_lda, mj_ldi, mj_sti, mj_sta, mj_b2, mj_br1, mj_br2, mj_brn, mj_ir, mj_rr, mj_nx, mj_gf, mj_fld, mj_k2, mj_rc, mj_cls, mj_dup, mj_inc, List.getElem?_cons_zero, List.getElem?_cons_succ, List.length_cons, List.length_nil, List.set_cons_succ, List.set_cons_zero, Nat.reduceAdd, Nat.reduceLT, if_true, if_false, mj_iif, decide_eq_true_eq, List.take_succ_cons, List.take_zero, List.reverse_cons, List.reverse_nil, List.nil_append, List.cons_append, List.drop_succ_cons, List.drop_zero, List.map_cons, List.map_nil, cat_i, cat_r, cat_n, Nat.reduceLeDiff, true_and, and_true, decide_true, Option.toList_some, Option.toList_none, and_self, Nat.le_refl, a2, ha, mL_137, f_fill (b4 _ _) (show 100 < 2 ^ 31 by decide)]
  simp only [r2_45, r2_46, r2_49, r2_50, wo_nx, wo_ret, wo_ite, wo_call, bk_inl, mj_lda, mj_ldi, mj_sti, mj_sta, mj_b2, mj_br1, mj_br2, mj_brn, mj_ir, mj_rr, mj_nx, mj_gf, mj_fld, mj_k2, mj_rc, mj_cls, mj_dup, mj_inc, List.getElem?_cons_zero, List.getElem?_cons_succ, List.length_cons, List.length_nil, List.set_cons_succ, List.set_cons_zero, Nat.reduceAdd, Nat.reduceLT, if_true, if_false, mj_iif, decide_eq_true_eq, List.take_succ_cons, List.take_zero, List.reverse_cons, List.reverse_nil, List.nil_append, List.cons_append, List.drop_succ_cons, List.drop_zero, List.map_cons, List.map_nil, cat_i, cat_r, cat_n, Nat.reduceLeDiff, true_and, and_true, decide_true, Option.toList_some, Option.toList_none, and_self, Nat.le_refl, a3, ha, mL_137, f_fill (b5 _ _ _) (show 5 < 2 ^ 31 by decide)]
  simp only [r2_53, r2_54, r2_55, r2_58, r2_59, r2_60, r2_63, r2_64, r2_65, r2_68, r2_69, r2_70, r2_73, r2_74, r2_75, r2_78, r2_79, r2_80, r2_83, r2_84, r2_85, r2_88, wo_nx, wo_ret, wo_ite, wo_call, bk_inl, mj_lda, mj_ldi, mj_sti, mj_sta, mj_b2, mj_br1, mj_br2, mj_brn, mj_ir, mj_rr, mj_nx, mj_gf, mj_fld, mj_k2, mj_rc, mj_cls, mj_dup, mj_inc, List.getElem?_cons_zero, List.getElem?_cons_succ, List.length_cons, List.length_nil, List.set_cons_succ, List.set_cons_zero, Nat.reduceAdd, Nat.reduceLT, if_true, if_false, mj_iif, decide_eq_true_eq, List.take_succ_cons, List.take_zero, List.reverse_cons, List.reverse_nil, List.nil_append, List.cons_append, List.drop_succ_cons, List.drop_zero, List.map_cons, List.map_nil, cat_i, cat_r, cat_n, Nat.reduceLeDiff, true_and, and_true, decide_true, Option.toList_some, Option.toList_none, and_self, Nat.le_refl, a4, ha, up_eq, up_up, mj_pf, mj_sf, mj_fit, Option.isSome_some, mj_vr]
theorem e_has {a t s : Nat} {f : Nat → Int32} {y : Value} {fs : List Value} (ha : σ.2.2 a = some (.inr (0, y :: .ref t :: fs))) (ht : σ.2.2 t = some (w_ba ar 100 f)) (hs : s < 100) : mj_wp (tb ar) 7 (mj_en (tb ar) 7 [.ref a, .int (nI s)] σ) Q ↔ Q (.inl (some (.int (if f s = 0 then 0 else 1)))) σ := by
  rw [en_7]
  have hix : mj_ix (nI s) 100 = true := ix_of hs (by decide)
  have hcl : (nI s).toNatClampNeg = s := nI_clamp (by omega)
  by_cases h : f s = 0
  · simp only [r7_0, r7_1, r7_4, r7_7, r7_8, r7_11, r7_12, r7_13, r7_16, r7_17, r7_20, r7_21, wo_nx, wo_ret, wo_ite, wo_call, bk_inl, mj_lda, mj_ldi, mj_sti, mj_sta, mj_b2, mj_br1, mj_br2, mj_brn, mj_ir, mj_rr, mj_nx, mj_gf, mj_fld, mj_k2, mj_rc, mj_cls, mj_dup, mj_inc, List.getElem?_cons_zero, List.getElem?_cons_succ, List.length_cons, List.length_nil, List.set_cons_succ, List.set_cons_zero, Nat.reduceAdd, Nat.reduceLT, if_true, if_false, mj_iif, decide_eq_true_eq, List.take_succ_cons, List.take_zero, List.reverse_cons, List.reverse_nil, List.nil_append, List.cons_append, List.drop_succ_cons, List.drop_zero, List.map_cons, List.map_nil, cat_i, cat_r, cat_n, Nat.reduceLeDiff, true_and, and_true, decide_true, Option.toList_some, Option.toList_none, and_self, Nat.le_refl, mL_85, i_slot1 hs, k_10, k_01, ha, ht, mj_il, mj_ia, ar_1, hix, hcl, h, mj_zr, or_false, or_true]
  · simp only [r7_0, r7_1, r7_4, r7_7, r7_8, r7_11, r7_12, r7_13, r7_16, r7_17, r7_20, r7_21, wo_nx, wo_ret, wo_ite, wo_call, bk_inl, mj_lda, mj_ldi, mj_sti, mj_sta, mj_b2, mj_br1, mj_br2, mj_brn, mj_ir, mj_rr, mj_nx, mj_gf, mj_fld, mj_k2, mj_rc, mj_cls, mj_dup, mj_inc, List.getElem?_cons_zero, List.getElem?_cons_succ, List.length_cons, List.length_nil, List.set_cons_succ, List.set_cons_zero, Nat.reduceAdd, Nat.reduceLT, if_true, if_false, mj_iif, decide_eq_true_eq, List.take_succ_cons, List.take_zero, List.reverse_cons, List.reverse_nil, List.nil_append, List.cons_append, List.drop_succ_cons, List.drop_zero, List.map_cons, List.map_nil, cat_i, cat_r, cat_n, Nat.reduceLeDiff, true_and, and_true, decide_true, Option.toList_some, Option.toList_none, and_self, Nat.le_refl, mL_85, i_slot1 hs, k_10, k_01, ha, ht, mj_il, mj_ia, ar_1, hix, hcl, h, mj_zr, false_or]
theorem e_has0 {a : Nat} {i : Int32} (h : i < 0 ∨ 100 ≤ i) : mj_wp (tb ar) 7 (mj_en (tb ar) 7 [.ref a, .int i] σ) Q ↔ Q (.inl (some (.int 0))) σ := by
  rw [en_7]
  simp only [r7_0, r7_1, r7_4, r7_7, r7_8, r7_11, r7_12, r7_13, r7_16, r7_17, r7_20, r7_21, wo_nx, wo_ret, wo_ite, wo_call, bk_inl, mj_lda, mj_ldi, mj_sti, mj_sta, mj_b2, mj_br1, mj_br2, mj_brn, mj_ir, mj_rr, mj_nx, mj_gf, mj_fld, mj_k2, mj_rc, mj_cls, mj_dup, mj_inc, List.getElem?_cons_zero, List.getElem?_cons_succ, List.length_cons, List.length_nil, List.set_cons_succ, List.set_cons_zero, Nat.reduceAdd, Nat.reduceLT, if_true, if_false, mj_iif, decide_eq_true_eq, List.take_succ_cons, List.take_zero, List.reverse_cons, List.reverse_nil, List.nil_append, List.cons_append, List.drop_succ_cons, List.drop_zero, List.map_cons, List.map_nil, cat_i, cat_r, cat_n, Nat.reduceLeDiff, true_and, and_true, decide_true, Option.toList_some, Option.toList_none, and_self, Nat.le_refl, mL_85, i_slot0 h, k_01, mj_zr, or_false]
theorem e_propose {a pp co s : Nat} {p f : Nat → Int32} {x go : Int32} {v0 v3 v4 v5 v6 v7 v8 v9 : Value} {fs : List Value} (ha : σ.2.2 a = some (.inr (0, v0 :: .ref pp :: .ref co :: v3 :: v4 :: v5 :: v6 :: v7 :: v8 :: v9 :: .int go :: fs))) (hp : σ.2.2 pp = some (w_ba ar 100 p)) (hc : σ.2.2 co = some (w_ia ar 100 f)) (hcp : co ≠ pp) (hs : s < 100) : mj_wp (tb ar) 8 (mj_en (tb ar) 8 [.ref a, .int (nI s), .int x] σ) Q ↔ Q (.inl none) (mj_up (mj_up (mj_up σ pp (w_ba ar 100 (upd p s 1))) co (w_ia ar 100 (upd f s x))) a (.inr (0, v0 :: .ref pp :: .ref co :: v3 :: v4 :: v5 :: v6 :: v7 :: v8 :: v9 :: .int (go ||| go_bit x) :: fs))) := by
  rw [en_8]
  have hix : mj_ix (nI s) 100 = true := ix_of hs (by decide)
  have hcl : (nI s).toNatClampNeg = s := nI_clamp (by omega)
  have a1 : ∀ e, (mj_up σ pp e).2.2 a = σ.2.2 a := fun e => up_ne (ne_arr ha hp)
  have a2 : ∀ e e', (mj_up (mj_up σ pp e) co e').2.2 a = σ.2.2 a := fun e e' => by rw [up_ne (ne_arr ha hc), up_ne (ne_arr ha hp)]
  have c1 : ∀ e, (mj_up σ pp e).2.2 co = some (w_ia ar 100 f) := fun e => by rw [up_ne hcp]; exact hc
  simp only [r8_0, r8_1, r8_4, r8_7, r8_8, r8_11, r8_12, r8_13, r8_14, r8_15, r8_18, r8_19, r8_20, r8_21, r8_22, r8_23, r8_26, r8_27, r8_30, r8_31, r8_34, wo_nx, wo_ret, wo_ite, wo_call, bk_inl, mj_lda, mj_ldi, mj_sti, mj_sta, mj_b2, mj_br1, mj_br2, mj_brn, mj_ir, mj_rr, mj_nx, mj_gf, mj_fld, mj_k2, mj_rc, mj_cls, mj_dup, mj_inc, List.getElem?_cons_zero, List.getElem?_cons_succ, List.length_cons, List.length_nil, List.set_cons_succ, List.set_cons_zero, Nat.reduceAdd, Nat.reduceLT, if_true, if_false, mj_iif, decide_eq_true_eq, List.take_succ_cons, List.take_zero, List.reverse_cons, List.reverse_nil, List.nil_append, List.cons_append, List.drop_succ_cons, List.drop_zero, List.map_cons, List.map_nil, cat_i, cat_r, cat_n, Nat.reduceLeDiff, true_and, and_true, decide_true, Option.toList_some, Option.toList_none, and_self, Nat.le_refl, mL_85, mL_86, g_bit, i_slot1 hs, k_10, ha, a1, a2, hp, c1, mj_zs, mj_is, mj_ia, mj_sa, ar_0, ar_1, hix, hcl, or_true, mj_pf, mj_sf, mj_fit, Option.isSome_some, mj_vr]
end LE
