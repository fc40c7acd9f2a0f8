section LF
variable {ar : Nat → ClassId} {σ : mj_S} {Q : (Option Value ⊕ String) → mj_S → Prop}
/-- an array of n Rows -/
abbrev w_ra (ar : Nat → ClassId) (n : Nat) (g : Nat → Option Nat) : va_E := .inl (ar 9, n, .inr (.inr (.inr (.inr g))))
def i_bit (x : Int32) (i : Nat) : Int32 := (x >>> (nI i &&& 31)) &&& 1
def i_one (i : Nat) : Int32 := 1 <<< (nI i &&& 31)
/-- the Rows of an array: their fields -/
def w_rows (σ : mj_S) (g : Nat → Option Nat) (n : Nat) (rw rb rc : Nat → Nat) (lo en : Nat → Int32) : Prop := ∀ i, i < n → g i = some (rw i) ∧ σ.2.2 (rw i) = some (.inr (7, [.ref (rb i), .ref (rc i), .int (lo i), .int (en i)]))
def e_who (pm : Int32) (lo : Nat → Int32) (s : Int32) : Nat → Int32
  | 0 => 0
  | i + 1 => if i_bit pm i = 0 then e_who pm lo s i else if s < lo i then e_who pm lo s i else e_who pm lo s i ||| i_one i
theorem e_for_loop {a pr n : Nat} {g : Nat → Option Nat} {rw' rb rc : Nat → Nat} {lo en : Nat → Int32} {v1 v2 v3 v4 v5 v6 v7 v8 : Value} {pm s : Int32} {fs : List Value} (ha : σ.2.2 a = some (.inr (0, .ref pr :: v1 :: v2 :: v3 :: v4 :: v5 :: v6 :: v7 :: v8 :: .int pm :: fs))) (hp : σ.2.2 pr = some (w_ra ar n g)) (hw : w_rows σ g n rw' rb rc lo en) (hn : n < 2 ^ 31) : ∀ (j i : Nat), i + j = n →
    (mj_wp (tb ar) 4 (4, [some (.ref a), some (.int s), some (.int (e_who pm lo s i)), some (.int (nI i))], [], σ) Q ↔ Q (.inl (some (.int (e_who pm lo s n)))) σ)
  | 0, i, h => by
    have h' : i = n := by omega
    subst h'
    have c1 : Int32.ofNat i ≤ nI i := nI_le (Nat.le_refl _) (by omega)
    simp only [r4_4, r4_5, r4_6, r4_9, r4_10, r4_49, r4_50, wo_nx, wo_ret, wo_ite, wo_call, bk_inl, mj_lda, mj_ldi, mj_sti, mj_sta, mj_b2, mj_br1, mj_br2, mj_brn, mj_ir, mj_rr, mj_nx, mj_gf, mj_fld, mj_k2, mj_rc, mj_cls, mj_dup, mj_inc, List.getElem?_cons_zero, List.getElem?_cons_succ, List.length_cons, List.length_nil, List.set_cons_succ, List.set_cons_zero, Nat.reduceAdd, Nat.reduceLT, if_true, if_false, mj_iif, decide_eq_true_eq, List.take_succ_cons, List.take_zero, List.reverse_cons, List.reverse_nil, List.nil_append, List.cons_append, List.drop_succ_cons, List.drop_zero, List.map_cons, List.map_nil, cat_i, cat_r, cat_n, Nat.reduceLeDiff, true_and, and_true, decide_true, Option.toList_some, Option.toList_none, and_self, Nat.le_refl, ha, hp, mj_alen, ka_9, c1]
  | j + 1, i, h => by
    have c1 : ¬ Int32.ofNat n ≤ nI i := nI_ge (by omega) (by omega)
    have ih := e_for_loop (s := s) ha hp hw hn j (i + 1) (by omega)
    have hix' : mj_ix (nI i) n = true := ix_of (by omega) hn
    have hcl' : (nI i).toNatClampNeg = i := nI_clamp (by omega)
    obtain ⟨hg, hrow⟩ := hw i (by omega)
    refine Iff.trans ?_ ih
    rw [r4_4]
    unfold e_who i_bit i_one
    by_cases hb : (pm >>> (nI i &&& 31)) &&& 1 = 0
    · simp only [r4_5, r4_6, r4_9, r4_10, r4_13, r4_14, r4_17, r4_18, r4_19, r4_20, r4_21, r4_43, r4_46, wo_nx, wo_ret, wo_ite, wo_call, bk_inl, mj_lda, mj_ldi, mj_sti, mj_sta, mj_b2, mj_br1, mj_br2, mj_brn, mj_ir, mj_rr, mj_nx, mj_gf, mj_fld, mj_k2, mj_rc, mj_cls, mj_dup, mj_inc, List.getElem?_cons_zero, List.getElem?_cons_succ, List.length_cons, List.length_nil, List.set_cons_succ, List.set_cons_zero, Nat.reduceAdd, Nat.reduceLT, if_true, if_false, mj_iif, decide_eq_true_eq, List.take_succ_cons, List.take_zero, List.reverse_cons, List.reverse_nil, List.nil_append, List.cons_append, List.drop_succ_cons, List.drop_zero, List.map_cons, List.map_nil, cat_i, cat_r, cat_n, Nat.reduceLeDiff, true_and, and_true, decide_true, Option.toList_some, Option.toList_none, and_self, Nat.le_refl, ha, hp, mj_alen, ka_9, c1, hb, nI_1]
      cases i <;> rfl
    · by_cases hl : s < lo i
      · simp only [r4_5, r4_6, r4_9, r4_10, r4_13, r4_14, r4_17, r4_18, r4_19, r4_20, r4_21, r4_24, r4_25, r4_28, r4_29, r4_30, r4_33, r4_34, r4_43, r4_46, wo_nx, wo_ret, wo_ite, wo_call, bk_inl, mj_lda, mj_ldi, mj_sti, mj_sta, mj_b2, mj_br1, mj_br2, mj_brn, mj_ir, mj_rr, mj_nx, mj_gf, mj_fld, mj_k2, mj_rc, mj_cls, mj_dup, mj_inc, List.getElem?_cons_zero, List.getElem?_cons_succ, List.length_cons, List.length_nil, List.set_cons_succ, List.set_cons_zero, Nat.reduceAdd, Nat.reduceLT, if_true, if_false, mj_iif, decide_eq_true_eq, List.take_succ_cons, List.take_zero, List.reverse_cons, List.reverse_nil, List.nil_append, List.cons_append, List.drop_succ_cons, List.drop_zero, List.map_cons, List.map_nil, cat_i, cat_r, cat_n, Nat.reduceLeDiff, true_and, and_true, decide_true, Option.toList_some, Option.toList_none, and_self, Nat.le_refl, ha, hp, mj_alen, ka_9, c1, hb, nI_1, mj_aald, kr_9, hix', hcl', hg, va_rf, hrow, hl]
        cases i <;> rfl
      · simp only [r4_5, r4_6, r4_9, r4_10, r4_13, r4_14, r4_17, r4_18, r4_19, r4_20, r4_21, r4_24, r4_25, r4_28, r4_29, r4_30, r4_33, r4_34, r4_37, r4_38, r4_39, r4_40, r4_41, r4_42, r4_43, r4_46, wo_nx, wo_ret, wo_ite, wo_call, bk_inl, mj_lda, mj_ldi, mj_sti, mj_sta, mj_b2, mj_br1, mj_br2, mj_brn, mj_ir, mj_rr, mj_nx, mj_gf, mj_fld, mj_k2, mj_rc, mj_cls, mj_dup, mj_inc, List.getElem?_cons_zero, List.getElem?_cons_succ, List.length_cons, List.length_nil, List.set_cons_succ, List.set_cons_zero, Nat.reduceAdd, Nat.reduceLT, if_true, if_false, mj_iif, decide_eq_true_eq, List.take_succ_cons, List.take_zero, List.reverse_cons, List.reverse_nil, List.nil_append, List.cons_append, List.drop_succ_cons, List.drop_zero, List.map_cons, List.map_nil, cat_i, cat_r, cat_n, Nat.reduceLeDiff, true_and, and_true, decide_true, Option.toList_some, Option.toList_none, and_self, Nat.le_refl, ha, hp, mj_alen, ka_9, c1, hb, nI_1, mj_aald, kr_9, hix', hcl', hg, va_rf, hrow, hl]
        cases i <;> rfl
theorem e_for {a pr n : Nat} {g : Nat → Option Nat} {rw' rb rc : Nat → Nat} {lo en : Nat → Int32} {v1 v2 v3 v4 v5 v6 v7 v8 : Value} {pm s : Int32} {fs : List Value} (ha : σ.2.2 a = some (.inr (0, .ref pr :: v1 :: v2 :: v3 :: v4 :: v5 :: v6 :: v7 :: v8 :: .int pm :: fs))) (hp : σ.2.2 pr = some (w_ra ar n g)) (hw : w_rows σ g n rw' rb rc lo en) (hn : n < 2 ^ 31) : mj_wp (tb ar) 4 (mj_en (tb ar) 4 [.ref a, .int s] σ) Q ↔ Q (.inl (some (.int (e_who pm lo s n)))) σ := by
  rw [en_4]
  have hl := e_for_loop (ar := ar) (Q := Q) (s := s) ha hp hw hn n 0 (by omega)
  refine Iff.trans ?_ hl
  simp only [r4_0, r4_1, r4_2, r4_3, wo_nx, wo_ret, wo_ite, wo_call, bk_inl, mj_lda, mj_ldi, mj_sti, mj_sta, mj_b2, mj_br1, mj_br2, mj_brn, mj_ir, mj_rr, mj_nx, mj_gf, mj_fld, mj_k2, mj_rc, mj_cls, mj_dup, mj_inc, List.getElem?_cons_zero, List.getElem?_cons_succ, List.length_cons, List.length_nil, List.set_cons_succ, List.set_cons_zero, Nat.reduceAdd, Nat.reduceLT, if_true, if_false, mj_iif, decide_eq_true_eq, List.take_succ_cons, List.take_zero, List.reverse_cons, List.reverse_nil, List.nil_append, List.cons_append, List.drop_succ_cons, List.drop_zero, List.map_cons, List.map_nil, cat_i, cat_r, cat_n, Nat.reduceLeDiff, true_and, and_true, decide_true, Option.toList_some, Option.toList_none, and_self, Nat.le_refl, e_who, nI_0]
/-- best told: its BALLOT and command -/
def e_best (who : Int32) (fb fc : Nat → Nat → Int32) (s : Nat) : Nat → Int32 × Int32
  | 0 => (0, -1000)
  | i + 1 => if i_bit who i = 0 then e_best who fb fc s i else if fb i s ≤ (e_best who fb fc s i).1 then e_best who fb fc s i else (fb i s, fc i s)
theorem e_best_loop {a pr n s : Nat} {g : Nat → Option Nat} {rw' rb rc : Nat → Nat} {lo en : Nat → Int32} {fb fc : Nat → Nat → Int32} {who : Int32} {fs : List Value} (ha : σ.2.2 a = some (.inr (0, .ref pr :: fs))) (hp : σ.2.2 pr = some (w_ra ar n g)) (hw : w_rows σ g n rw' rb rc lo en) (hb : ∀ i, i < n → σ.2.2 (rb i) = some (w_ia ar 100 (fb i))) (hc : ∀ i, i < n → σ.2.2 (rc i) = some (w_ia ar 100 (fc i))) (hn : n < 2 ^ 31) (hs : s < 100) : ∀ (j i : Nat), i + j = n →
    (mj_wp (tb ar) 5 (10, [some (.ref a), some (.int who), some (.int (nI s)), some (.int (e_best who fb fc s i).1), some (.int (e_best who fb fc s i).2), some (.int (nI i))], [], σ) Q ↔ Q (.inl (some (.int (e_best who fb fc s n).2))) σ)
  | 0, i, h => by
    have h' : i = n := by omega
    subst h'
    have c1 : Int32.ofNat i ≤ nI i := nI_le (Nat.le_refl _) (by omega)
    simp only [r5_10, r5_12, r5_13, r5_16, r5_17, r5_85, r5_87, wo_nx, wo_ret, wo_ite, wo_call, bk_inl, mj_lda, mj_ldi, mj_sti, mj_sta, mj_b2, mj_br1, mj_br2, mj_brn, mj_ir, mj_rr, mj_nx, mj_gf, mj_fld, mj_k2, mj_rc, mj_cls, mj_dup, mj_inc, List.getElem?_cons_zero, List.getElem?_cons_succ, List.length_cons, List.length_nil, List.set_cons_succ, List.set_cons_zero, Nat.reduceAdd, Nat.reduceLT, if_true, if_false, mj_iif, decide_eq_true_eq, List.take_succ_cons, List.take_zero, List.reverse_cons, List.reverse_nil, List.nil_append, List.cons_append, List.drop_succ_cons, List.drop_zero, List.map_cons, List.map_nil, cat_i, cat_r, cat_n, Nat.reduceLeDiff, true_and, and_true, decide_true, Option.toList_some, Option.toList_none, and_self, Nat.le_refl, ha, hp, mj_alen, ka_9, c1]
  | j + 1, i, h => by
    have c1 : ¬ Int32.ofNat n ≤ nI i := nI_ge (by omega) (by omega)
    have ih := e_best_loop (who := who) ha hp hw hb hc hn hs j (i + 1) (by omega)
    have hix' : mj_ix (nI i) n = true := ix_of (by omega) hn
    have hcl' : (nI i).toNatClampNeg = i := nI_clamp (by omega)
    have hix : mj_ix (nI s) 100 = true := ix_of hs (by decide)
    have hcl : (nI s).toNatClampNeg = s := nI_clamp (by omega)
    obtain ⟨hg, hrow⟩ := hw i (by omega)
    have hb' := hb i (by omega)
    have hc' := hc i (by omega)
    refine Iff.trans ?_ ih
    rw [r5_10]
    by_cases hbt : i_bit who i = 0
    · rw [show e_best who fb fc s (i + 1) = e_best who fb fc s i by rw [e_best, if_pos hbt]]
      unfold i_bit at hbt
      simp only [r5_12, r5_13, r5_16, r5_17, r5_20, r5_21, r5_24, r5_27, r5_28, r5_30, r5_31, r5_32, r5_33, r5_79, r5_82, wo_nx, wo_ret, wo_ite, wo_call, bk_inl, mj_lda, mj_ldi, mj_sti, mj_sta, mj_b2, mj_br1, mj_br2, mj_brn, mj_ir, mj_rr, mj_nx, mj_gf, mj_fld, mj_k2, mj_rc, mj_cls, mj_dup, mj_inc, List.getElem?_cons_zero, List.getElem?_cons_succ, List.length_cons, List.length_nil, List.set_cons_succ, List.set_cons_zero, Nat.reduceAdd, Nat.reduceLT, if_true, if_false, mj_iif, decide_eq_true_eq, List.take_succ_cons, List.take_zero, List.reverse_cons, List.reverse_nil, List.nil_append, List.cons_append, List.drop_succ_cons, List.drop_zero, List.map_cons, List.map_nil, cat_i, cat_r, cat_n, Nat.reduceLeDiff, true_and, and_true, decide_true, Option.toList_some, Option.toList_none, and_self, Nat.le_refl, ha, hp, mj_alen, ka_9, c1, hbt, nI_1, mL_85, i_slot1 hs, k_10]
    · by_cases hle : fb i s ≤ (e_best who fb fc s i).1
      · rw [show e_best who fb fc s (i + 1) = e_best who fb fc s i by rw [e_best, if_neg hbt, if_pos hle]]
        unfold i_bit at hbt
        simp only [r5_12, r5_13, r5_16, r5_17, r5_20, r5_21, r5_24, r5_27, r5_28, r5_30, r5_31, r5_32, r5_33, r5_36, r5_37, r5_40, r5_42, r5_43, r5_46, r5_47, r5_48, r5_49, r5_79, r5_82, wo_nx, wo_ret, wo_ite, wo_call, bk_inl, mj_lda, mj_ldi, mj_sti, mj_sta, mj_b2, mj_br1, mj_br2, mj_brn, mj_ir, mj_rr, mj_nx, mj_gf, mj_fld, mj_k2, mj_rc, mj_cls, mj_dup, mj_inc, List.getElem?_cons_zero, List.getElem?_cons_succ, List.length_cons, List.length_nil, List.set_cons_succ, List.set_cons_zero, Nat.reduceAdd, Nat.reduceLT, if_true, if_false, mj_iif, decide_eq_true_eq, List.take_succ_cons, List.take_zero, List.reverse_cons, List.reverse_nil, List.nil_append, List.cons_append, List.drop_succ_cons, List.drop_zero, List.map_cons, List.map_nil, cat_i, cat_r, cat_n, Nat.reduceLeDiff, true_and, and_true, decide_true, Option.toList_some, Option.toList_none, and_self, Nat.le_refl, ha, hp, mj_alen, ka_9, c1, hbt, nI_1, mL_85, i_slot1 hs, k_10, mj_aald, kr_9, hix', hcl', hg, va_rf, hrow, hb', mj_il, mj_ia, ar_0, hix, hcl, hle]
      · rw [show e_best who fb fc s (i + 1) = (fb i s, fc i s) by rw [e_best, if_neg hbt, if_neg hle]]
        unfold i_bit at hbt
        simp only [r5_12, r5_13, r5_16, r5_17, r5_20, r5_21, r5_24, r5_27, r5_28, r5_30, r5_31, r5_32, r5_33, r5_36, r5_37, r5_40, r5_42, r5_43, r5_46, r5_47, r5_48, r5_49, r5_52, r5_53, r5_56, r5_58, r5_59, r5_62, r5_63, r5_64, r5_65, r5_66, r5_69, r5_71, r5_72, r5_75, r5_76, r5_77, r5_79, r5_82, wo_nx, wo_ret, wo_ite, wo_call, bk_inl, mj_lda, mj_ldi, mj_sti, mj_sta, mj_b2, mj_br1, mj_br2, mj_brn, mj_ir, mj_rr, mj_nx, mj_gf, mj_fld, mj_k2, mj_rc, mj_cls, mj_dup, mj_inc, List.getElem?_cons_zero, List.getElem?_cons_succ, List.length_cons, List.length_nil, List.set_cons_succ, List.set_cons_zero, Nat.reduceAdd, Nat.reduceLT, if_true, if_false, mj_iif, decide_eq_true_eq, List.take_succ_cons, List.take_zero, List.reverse_cons, List.reverse_nil, List.nil_append, List.cons_append, List.drop_succ_cons, List.drop_zero, List.map_cons, List.map_nil, cat_i, cat_r, cat_n, Nat.reduceLeDiff, true_and, and_true, decide_true, Option.toList_some, Option.toList_none, and_self, Nat.le_refl, ha, hp, mj_alen, ka_9, c1, hbt, nI_1, mL_85, i_slot1 hs, k_10, mj_aald, kr_9, hix', hcl', hg, va_rf, hrow, hb', hc', mj_il, mj_ia, ar_0, hix, hcl, hle]
theorem e_bestT {a pr n s : Nat} {g : Nat → Option Nat} {rw' rb rc : Nat → Nat} {lo en : Nat → Int32} {fb fc : Nat → Nat → Int32} {who : Int32} {fs : List Value} (ha : σ.2.2 a = some (.inr (0, .ref pr :: fs))) (hp : σ.2.2 pr = some (w_ra ar n g)) (hw : w_rows σ g n rw' rb rc lo en) (hb : ∀ i, i < n → σ.2.2 (rb i) = some (w_ia ar 100 (fb i))) (hc : ∀ i, i < n → σ.2.2 (rc i) = some (w_ia ar 100 (fc i))) (hn : n < 2 ^ 31) (hs : s < 100) : mj_wp (tb ar) 5 (mj_en (tb ar) 5 [.ref a, .int who, .int (nI s)] σ) Q ↔ Q (.inl (some (.int (e_best who fb fc s n).2))) σ := by
  rw [en_5]
  have hl := e_best_loop (ar := ar) (Q := Q) (who := who) ha hp hw hb hc hn hs n 0 (by omega)
  refine Iff.trans ?_ hl
  simp only [r5_0, r5_1, r5_2, r5_5, r5_7, r5_8, wo_nx, wo_ret, wo_ite, wo_call, bk_inl, mj_lda, mj_ldi, mj_sti, mj_sta, mj_b2, mj_br1, mj_br2, mj_brn, mj_ir, mj_rr, mj_nx, mj_gf, mj_fld, mj_k2, mj_rc, mj_cls, mj_dup, mj_inc, List.getElem?_cons_zero, List.getElem?_cons_succ, List.length_cons, List.length_nil, List.set_cons_succ, List.set_cons_zero, Nat.reduceAdd, Nat.reduceLT, if_true, if_false, mj_iif, decide_eq_true_eq, List.take_succ_cons, List.take_zero, List.reverse_cons, List.reverse_nil, List.nil_append, List.cons_append, List.drop_succ_cons, List.drop_zero, List.map_cons, List.map_nil, cat_i, cat_r, cat_n, Nat.reduceLeDiff, true_and, and_true, decide_true, Option.toList_some, Option.toList_none, and_self, Nat.le_refl, e_best, nI_0]
/-- told behind: one of them -/
def e_beh (who : Int32) (en : Nat → Int32) (s : Int32) (n : Nat) : Prop := ∃ i, i < n ∧ ¬ i_bit who i = 0 ∧ s + 1 < en i
theorem e_beh_loop {a pr n : Nat} {g : Nat → Option Nat} {rw' rb rc : Nat → Nat} {lo en : Nat → Int32} {who s : Int32} {fs : List Value} (ha : σ.2.2 a = some (.inr (0, .ref pr :: fs))) (hp : σ.2.2 pr = some (w_ra ar n g)) (hw : w_rows σ g n rw' rb rc lo en) (hn : n < 2 ^ 31) : ∀ (j i : Nat), i + j = n → ¬ e_beh who en s i → ∃ b : Int32, ((b = 1 ∧ e_beh who en s n) ∨ (b = 0 ∧ ¬ e_beh who en s n)) ∧
    (mj_wp (tb ar) 6 (2, [some (.ref a), some (.int who), some (.int s), some (.int (nI i))], [], σ) Q ↔ Q (.inl (some (.int b))) σ)
  | 0, i, h, hno => by
    have h' : i = n := by omega
    subst h'
    have c1 : Int32.ofNat i ≤ nI i := nI_le (Nat.le_refl _) (by omega)
    refine ⟨0, Or.inr ⟨rfl, hno⟩, ?_⟩
    simp only [r6_2, r6_3, r6_4, r6_7, r6_8, r6_42, r6_43, wo_nx, wo_ret, wo_ite, wo_call, bk_inl, mj_lda, mj_ldi, mj_sti, mj_sta, mj_b2, mj_br1, mj_br2, mj_brn, mj_ir, mj_rr, mj_nx, mj_gf, mj_fld, mj_k2, mj_rc, mj_cls, mj_dup, mj_inc, List.getElem?_cons_zero, List.getElem?_cons_succ, List.length_cons, List.length_nil, List.set_cons_succ, List.set_cons_zero, Nat.reduceAdd, Nat.reduceLT, if_true, if_false, mj_iif, decide_eq_true_eq, List.take_succ_cons, List.take_zero, List.reverse_cons, List.reverse_nil, List.nil_append, List.cons_append, List.drop_succ_cons, List.drop_zero, List.map_cons, List.map_nil, cat_i, cat_r, cat_n, Nat.reduceLeDiff, true_and, and_true, decide_true, Option.toList_some, Option.toList_none, and_self, Nat.le_refl, ha, hp, mj_alen, ka_9, c1, mj_zr, true_or]
  | j + 1, i, h, hno => by
    have c1 : ¬ Int32.ofNat n ≤ nI i := nI_ge (by omega) (by omega)
    have hix' : mj_ix (nI i) n = true := ix_of (by omega) hn
    have hcl' : (nI i).toNatClampNeg = i := nI_clamp (by omega)
    obtain ⟨hg, hrow⟩ := hw i (by omega)
    by_cases hy : ¬ i_bit who i = 0 ∧ s + 1 < en i
    · refine ⟨1, Or.inl ⟨rfl, i, by omega, hy⟩, ?_⟩
      obtain ⟨hb, hlt⟩ := hy
      have hle : ¬ en i ≤ s + 1 := Int32.not_le.mpr hlt
      unfold i_bit at hb
      simp only [r6_2, r6_3, r6_4, r6_7, r6_8, r6_11, r6_12, r6_13, r6_14, r6_15, r6_16, r6_19, r6_20, r6_23, r6_24, r6_25, r6_28, r6_29, r6_30, r6_31, r6_34, r6_35, wo_nx, wo_ret, wo_ite, wo_call, bk_inl, mj_lda, mj_ldi, mj_sti, mj_sta, mj_b2, mj_br1, mj_br2, mj_brn, mj_ir, mj_rr, mj_nx, mj_gf, mj_fld, mj_k2, mj_rc, mj_cls, mj_dup, mj_inc, List.getElem?_cons_zero, List.getElem?_cons_succ, List.length_cons, List.length_nil, List.set_cons_succ, List.set_cons_zero, Nat.reduceAdd, Nat.reduceLT, if_true, if_false, mj_iif, decide_eq_true_eq, List.take_succ_cons, List.take_zero, List.reverse_cons, List.reverse_nil, List.nil_append, List.cons_append, List.drop_succ_cons, List.drop_zero, List.map_cons, List.map_nil, cat_i, cat_r, cat_n, Nat.reduceLeDiff, true_and, and_true, decide_true, Option.toList_some, Option.toList_none, and_self, Nat.le_refl, ha, hp, mj_alen, ka_9, c1, hb, mj_aald, kr_9, hix', hcl', hg, va_rf, hrow, hle, mj_zr, or_true]
    · have hno' : ¬ e_beh who en s (i + 1) := by
        rintro ⟨k, hk, h2⟩
        by_cases hki : k = i
        · subst hki
          exact hy h2
        · exact hno ⟨k, by omega, h2⟩
      obtain ⟨b, hb1, ih⟩ := e_beh_loop (who := who) (s := s) ha hp hw hn j (i + 1) (by omega) hno'
      refine ⟨b, hb1, Iff.trans ?_ ih⟩
      rw [r6_2]
      by_cases hb : i_bit who i = 0
      · unfold i_bit at hb
        simp only [r6_3, r6_4, r6_7, r6_8, r6_11, r6_12, r6_13, r6_14, r6_15, r6_16, r6_36, r6_39, wo_nx, wo_ret, wo_ite, wo_call, bk_inl, mj_lda, mj_ldi, mj_sti, mj_sta, mj_b2, mj_br1, mj_br2, mj_brn, mj_ir, mj_rr, mj_nx, mj_gf, mj_fld, mj_k2, mj_rc, mj_cls, mj_dup, mj_inc, List.getElem?_cons_zero, List.getElem?_cons_succ, List.length_cons, List.length_nil, List.set_cons_succ, List.set_cons_zero, Nat.reduceAdd, Nat.reduceLT, if_true, if_false, mj_iif, decide_eq_true_eq, List.take_succ_cons, List.take_zero, List.reverse_cons, List.reverse_nil, List.nil_append, List.cons_append, List.drop_succ_cons, List.drop_zero, List.map_cons, List.map_nil, cat_i, cat_r, cat_n, Nat.reduceLeDiff, true_and, and_true, decide_true, Option.toList_some, Option.toList_none, and_self, Nat.le_refl, ha, hp, mj_alen, ka_9, c1, hb, nI_1]
      · have hle : en i ≤ s + 1 := Int32.not_lt.mp (fun q => hy ⟨hb, q⟩)
        unfold i_bit at hb
        simp only [r6_3, r6_4, r6_7, r6_8, r6_11, r6_12, r6_13, r6_14, r6_15, r6_16, r6_19, r6_20, r6_23, r6_24, r6_25, r6_28, r6_29, r6_30, r6_31, r6_36, r6_39, wo_nx, wo_ret, wo_ite, wo_call, bk_inl, mj_lda, mj_ldi, mj_sti, mj_sta, mj_b2, mj_br1, mj_br2, mj_brn, mj_ir, mj_rr, mj_nx, mj_gf, mj_fld, mj_k2, mj_rc, mj_cls, mj_dup, mj_inc, List.getElem?_cons_zero, List.getElem?_cons_succ, List.length_cons, List.length_nil, List.set_cons_succ, List.set_cons_zero, Nat.reduceAdd, Nat.reduceLT, if_true, if_false, mj_iif, decide_eq_true_eq, List.take_succ_cons, List.take_zero, List.reverse_cons, List.reverse_nil, List.nil_append, List.cons_append, List.drop_succ_cons, List.drop_zero, List.map_cons, List.map_nil, cat_i, cat_r, cat_n, Nat.reduceLeDiff, true_and, and_true, decide_true, Option.toList_some, Option.toList_none, and_self, Nat.le_refl, ha, hp, mj_alen, ka_9, c1, hb, mj_aald, kr_9, hix', hcl', hg, va_rf, hrow, hle, nI_1]
end LF
