section LO
variable {ar : Nat → ClassId} {σ : mj_S} {Q : (Option Value ⊕ String) → mj_S → Prop}
/-- a boolean[] of n places -/
abbrev w_ba (ar : Nat → ClassId) (n : Nat) (f : Nat → Int32) : va_E := .inl (ar 1, n, .inl f)
theorem ar_1 : mj_ar (tb ar) 1 = ar 1 := rfl
theorem en_86 {a : Value} : mj_en (tb ar) 86 [a] σ = (0, [some a], [], σ) := rfl
theorem en_10 {a b : Value} : mj_en (tb ar) 10 [a, b] σ = (0, [some a, some b], [], σ) := rfl
theorem en_11 {a b : Value} : mj_en (tb ar) 11 [a, b] σ = (0, [some a, some b], [], σ) := rfl
theorem en_12 {a b : Value} : mj_en (tb ar) 12 [a, b] σ = (0, [some a, some b], [], σ) := rfl
theorem en_13 {a : Value} : mj_en (tb ar) 13 [a] σ = (0, [some a], [], σ) := rfl
theorem en_14 {a b c : Value} : mj_en (tb ar) 14 [a, b, c] σ = (0, [some a, some b, some c, none], [], σ) := rfl
theorem mL_86 : mj_mL (tb ar) 86 = 1 := rfl
theorem mL_11 : mj_mL (tb ar) 11 = 2 := rfl
theorem nI_4 (a : Nat) : nI a + 4 = nI (a + 4) := nI_add a 4
theorem k_10 : ((1 : Int32) = 0) ↔ False := by decide
theorem k_01 : ((0 : Int32) = 1) ↔ False := by decide
def go_bit (c : Int32) : Int32 := if c < 0 ∧ ¬ c < -5 then 1 <<< ((-1 - c) &&& 31) else 0
theorem g_bit {c : Int32} : mj_wp (tb ar) 86 (mj_en (tb ar) 86 [.int c] σ) Q ↔ Q (.inl (some (.int (go_bit c)))) σ := by
  rw [en_86]
  unfold go_bit
  by_cases h1 : c < 0
  · have h1' : ¬ (0 : Int32) ≤ c := Int32.not_le.mpr h1
    by_cases h2 : c < -5
    · simp only [r86_0, r86_1, r86_4, r86_5, r86_7, r86_10, r86_11, r86_12, r86_13, r86_14, r86_15, r86_18, r86_19, wo_nx, wo_ret, wo_ite, wo_call, bk_inl, mj_lda, mj_ldi, mj_sti, mj_sta, mj_b2, mj_br1, mj_br2, mj_brn, mj_ir, mj_rr, mj_nx, mj_gf, mj_fld, mj_k2, mj_rc, mj_cls, mj_dup, mj_inc, List.getElem?_cons_zero, List.getElem?_cons_succ, List.length_cons, List.length_nil, List.set_cons_succ, List.set_cons_zero, Nat.reduceAdd, Nat.reduceLT, if_true, if_false, mj_iif, decide_eq_true_eq, List.take_succ_cons, List.take_zero, List.reverse_cons, List.reverse_nil, List.nil_append, List.cons_append, List.drop_succ_cons, List.drop_zero, List.map_cons, List.map_nil, cat_i, cat_r, cat_n, Nat.reduceLeDiff, true_and, and_true, decide_true, Option.toList_some, Option.toList_none, and_self, Nat.le_refl, h1, h1', h2, not_true_eq_false, and_false]
    · simp only [r86_0, r86_1, r86_4, r86_5, r86_7, r86_10, r86_11, r86_12, r86_13, r86_14, r86_15, r86_18, r86_19, wo_nx, wo_ret, wo_ite, wo_call, bk_inl, mj_lda, mj_ldi, mj_sti, mj_sta, mj_b2, mj_br1, mj_br2, mj_brn, mj_ir, mj_rr, mj_nx, mj_gf, mj_fld, mj_k2, mj_rc, mj_cls, mj_dup, mj_inc, List.getElem?_cons_zero, List.getElem?_cons_succ, List.length_cons, List.length_nil, List.set_cons_succ, List.set_cons_zero, Nat.reduceAdd, Nat.reduceLT, if_true, if_false, mj_iif, decide_eq_true_eq, List.take_succ_cons, List.take_zero, List.reverse_cons, List.reverse_nil, List.nil_append, List.cons_append, List.drop_succ_cons, List.drop_zero, List.map_cons, List.map_nil, cat_i, cat_r, cat_n, Nat.reduceLeDiff, true_and, and_true, decide_true, Option.toList_some, Option.toList_none, and_self, Nat.le_refl, h1, h1', h2, not_false_eq_true]
  · have h1' : (0 : Int32) ≤ c := Int32.not_lt.mp h1
    simp only [r86_0, r86_1, r86_4, r86_5, r86_7, r86_10, r86_11, r86_12, r86_13, r86_14, r86_15, r86_18, r86_19, wo_nx, wo_ret, wo_ite, wo_call, bk_inl, mj_lda, mj_ldi, mj_sti, mj_sta, mj_b2, mj_br1, mj_br2, mj_brn, mj_ir, mj_rr, mj_nx, mj_gf, mj_fld, mj_k2, mj_rc, mj_cls, mj_dup, mj_inc, List.getElem?_cons_zero, List.getElem?_cons_succ, List.length_cons, List.length_nil, List.set_cons_succ, List.set_cons_zero, Nat.reduceAdd, Nat.reduceLT, if_true, if_false, mj_iif, decide_eq_true_eq, List.take_succ_cons, List.take_zero, List.reverse_cons, List.reverse_nil, List.nil_append, List.cons_append, List.drop_succ_cons, List.drop_zero, List.map_cons, List.map_nil, cat_i, cat_r, cat_n, Nat.reduceLeDiff, true_and, and_true, decide_true, Option.toList_some, Option.toList_none, and_self, Nat.le_refl, h1, h1', false_and]
theorem i_slot0 {i : Int32} (h : i < 0 ∨ 100 ≤ i) : mj_wp (tb ar) 85 (mj_en (tb ar) 85 [.int i] σ) Q ↔ Q (.inl (some (.int 0))) σ := by
  rw [i_slot, if_neg]
  rintro ⟨h1, h2⟩
  rcases h with h | h
  · exact h1 h
  · exact (Int32.not_le.mpr h2) h
theorem l_has {a t s : Nat} {f : Nat → Int32} {fs : List Value} (ha : σ.2.2 a = some (.inr (1, .ref t :: fs))) (ht : σ.2.2 t = some (w_ba ar 100 f)) (hs : s < 100) : mj_wp (tb ar) 10 (mj_en (tb ar) 10 [.ref a, .int (nI s)] σ) Q ↔ Q (.inl (some (.int (if f s = 0 then 0 else 1)))) σ := by
  rw [en_10]
  have hix : mj_ix (nI s) 100 = true := ix_of hs (by decide)
  have hcl : (nI s).toNatClampNeg = s := nI_clamp (by omega)
  by_cases h : f s = 0
  · simp only [r10_0, r10_1, r10_4, r10_7, r10_8, r10_11, r10_12, r10_13, r10_16, r10_17, r10_20, r10_21, wo_nx, wo_ret, wo_ite, wo_call, bk_inl, mj_lda, mj_ldi, mj_sti, mj_sta, mj_b2, mj_br1, mj_br2, mj_brn, mj_ir, mj_rr, mj_nx, mj_gf, mj_fld, mj_k2, mj_rc, mj_cls, mj_dup, mj_inc, List.getElem?_cons_zero, List.getElem?_cons_succ, List.length_cons, List.length_nil, List.set_cons_succ, List.set_cons_zero, Nat.reduceAdd, Nat.reduceLT, if_true, if_false, mj_iif, decide_eq_true_eq, List.take_succ_cons, List.take_zero, List.reverse_cons, List.reverse_nil, List.nil_append, List.cons_append, List.drop_succ_cons, List.drop_zero, List.map_cons, List.map_nil, cat_i, cat_r, cat_n, Nat.reduceLeDiff, true_and, and_true, decide_true, Option.toList_some, Option.toList_none, and_self, Nat.le_refl, mL_85, i_slot1 hs, k_10, k_01, ha, ht, mj_il, mj_ia, ar_1, hix, hcl, h, mj_zr, or_false, or_true]
  · simp only [r10_0, r10_1, r10_4, r10_7, r10_8, r10_11, r10_12, r10_13, r10_16, r10_17, r10_20, r10_21, wo_nx, wo_ret, wo_ite, wo_call, bk_inl, mj_lda, mj_ldi, mj_sti, mj_sta, mj_b2, mj_br1, mj_br2, mj_brn, mj_ir, mj_rr, mj_nx, mj_gf, mj_fld, mj_k2, mj_rc, mj_cls, mj_dup, mj_inc, List.getElem?_cons_zero, List.getElem?_cons_succ, List.length_cons, List.length_nil, List.set_cons_succ, List.set_cons_zero, Nat.reduceAdd, Nat.reduceLT, if_true, if_false, mj_iif, decide_eq_true_eq, List.take_succ_cons, List.take_zero, List.reverse_cons, List.reverse_nil, List.nil_append, List.cons_append, List.drop_succ_cons, List.drop_zero, List.map_cons, List.map_nil, cat_i, cat_r, cat_n, Nat.reduceLeDiff, true_and, and_true, decide_true, Option.toList_some, Option.toList_none, and_self, Nat.le_refl, mL_85, i_slot1 hs, k_10, k_01, ha, ht, mj_il, mj_ia, ar_1, hix, hcl, h, mj_zr, false_or]
theorem l_has0 {a : Nat} {i : Int32} (h : i < 0 ∨ 100 ≤ i) : mj_wp (tb ar) 10 (mj_en (tb ar) 10 [.ref a, .int i] σ) Q ↔ Q (.inl (some (.int 0))) σ := by
  rw [en_10]
  simp only [r10_0, r10_1, r10_4, r10_7, r10_8, r10_11, r10_12, r10_13, r10_16, r10_17, r10_20, r10_21, wo_nx, wo_ret, wo_ite, wo_call, bk_inl, mj_lda, mj_ldi, mj_sti, mj_sta, mj_b2, mj_br1, mj_br2, mj_brn, mj_ir, mj_rr, mj_nx, mj_gf, mj_fld, mj_k2, mj_rc, mj_cls, mj_dup, mj_inc, List.getElem?_cons_zero, List.getElem?_cons_succ, List.length_cons, List.length_nil, List.set_cons_succ, List.set_cons_zero, Nat.reduceAdd, Nat.reduceLT, if_true, if_false, mj_iif, decide_eq_true_eq, List.take_succ_cons, List.take_zero, List.reverse_cons, List.reverse_nil, List.nil_append, List.cons_append, List.drop_succ_cons, List.drop_zero, List.map_cons, List.map_nil, cat_i, cat_r, cat_n, Nat.reduceLeDiff, true_and, and_true, decide_true, Option.toList_some, Option.toList_none, and_self, Nat.le_refl, mL_85, i_slot0 h, k_01, mj_zr, or_false]
theorem l_mem {a m s : Nat} {f : Nat → Int32} {y z : Value} {fs : List Value} (ha : σ.2.2 a = some (.inr (1, y :: z :: .ref m :: fs))) (hm : σ.2.2 m = some (w_ia ar 104 f)) (hs : s < 104) : mj_wp (tb ar) 11 (mj_en (tb ar) 11 [.ref a, .int (nI s)] σ) Q ↔ Q (.inl (some (.int (f s)))) σ := by
  rw [en_11]
  have c1 : ¬ nI s < 0 := nI_pos (by omega)
  have c2 : ¬ (104 : Int32) ≤ nI s := nI_ge (b := 104) hs (by decide)
  have hix : mj_ix (nI s) 104 = true := ix_of hs (by decide)
  have hcl : (nI s).toNatClampNeg = s := nI_clamp (by omega)
  simp only [r11_0, r11_1, r11_4, r11_5, r11_7, r11_10, r11_11, r11_14, r11_15, r11_16, r11_19, r11_20, wo_nx, wo_ret, wo_ite, wo_call, bk_inl, mj_lda, mj_ldi, mj_sti, mj_sta, mj_b2, mj_br1, mj_br2, mj_brn, mj_ir, mj_rr, mj_nx, mj_gf, mj_fld, mj_k2, mj_rc, mj_cls, mj_dup, mj_inc, List.getElem?_cons_zero, List.getElem?_cons_succ, List.length_cons, List.length_nil, List.set_cons_succ, List.set_cons_zero, Nat.reduceAdd, Nat.reduceLT, if_true, if_false, mj_iif, decide_eq_true_eq, List.take_succ_cons, List.take_zero, List.reverse_cons, List.reverse_nil, List.nil_append, List.cons_append, List.drop_succ_cons, List.drop_zero, List.map_cons, List.map_nil, cat_i, cat_r, cat_n, Nat.reduceLeDiff, true_and, and_true, decide_true, Option.toList_some, Option.toList_none, and_self, Nat.le_refl, c1, c2, ha, hm, mj_il, mj_ia, ar_0, hix, hcl]
theorem l_mem0 {a : Nat} {i : Int32} (h : i < 0 ∨ 104 ≤ i) : mj_wp (tb ar) 11 (mj_en (tb ar) 11 [.ref a, .int i] σ) Q ↔ Q (.inl (some (.int 0))) σ := by
  rw [en_11]
  by_cases h1 : i < 0
  · simp only [r11_0, r11_1, r11_19, r11_20, wo_nx, wo_ret, wo_ite, wo_call, bk_inl, mj_lda, mj_ldi, mj_sti, mj_sta, mj_b2, mj_br1, mj_br2, mj_brn, mj_ir, mj_rr, mj_nx, mj_gf, mj_fld, mj_k2, mj_rc, mj_cls, mj_dup, mj_inc, List.getElem?_cons_zero, List.getElem?_cons_succ, List.length_cons, List.length_nil, List.set_cons_succ, List.set_cons_zero, Nat.reduceAdd, Nat.reduceLT, if_true, if_false, mj_iif, decide_eq_true_eq, List.take_succ_cons, List.take_zero, List.reverse_cons, List.reverse_nil, List.nil_append, List.cons_append, List.drop_succ_cons, List.drop_zero, List.map_cons, List.map_nil, cat_i, cat_r, cat_n, Nat.reduceLeDiff, true_and, and_true, decide_true, Option.toList_some, Option.toList_none, and_self, Nat.le_refl, h1]
  · have h2 := h.resolve_left h1
    simp only [r11_0, r11_1, r11_4, r11_5, r11_7, r11_19, r11_20, wo_nx, wo_ret, wo_ite, wo_call, bk_inl, mj_lda, mj_ldi, mj_sti, mj_sta, mj_b2, mj_br1, mj_br2, mj_brn, mj_ir, mj_rr, mj_nx, mj_gf, mj_fld, mj_k2, mj_rc, mj_cls, mj_dup, mj_inc, List.getElem?_cons_zero, List.getElem?_cons_succ, List.length_cons, List.length_nil, List.set_cons_succ, List.set_cons_zero, Nat.reduceAdd, Nat.reduceLT, if_true, if_false, mj_iif, decide_eq_true_eq, List.take_succ_cons, List.take_zero, List.reverse_cons, List.reverse_nil, List.nil_append, List.cons_append, List.drop_succ_cons, List.drop_zero, List.map_cons, List.map_nil, cat_i, cat_r, cat_n, Nat.reduceLeDiff, true_and, and_true, decide_true, Option.toList_some, Option.toList_none, and_self, Nat.le_refl, h1, h2]
theorem l_ism {a m kn : Nat} {x : Int32} {f : Nat → Int32} {y z : Value} {fs : List Value} (ha : σ.2.2 a = some (.inr (1, y :: z :: .ref m :: .int (nI kn) :: fs))) (hm : σ.2.2 m = some (w_ia ar 104 f)) (hs : kn < 104) : mj_wp (tb ar) 12 (mj_en (tb ar) 12 [.ref a, .int x] σ) Q ↔ Q (.inl (some (.int (if (f kn >>> (x &&& 31)) &&& 1 = 0 then 0 else 1)))) σ := by
  rw [en_12]
  by_cases h : (f kn >>> (x &&& 31)) &&& 1 = 0
  · simp only [r12_0, r12_1, r12_2, r12_5, r12_8, r12_9, r12_10, r12_11, r12_12, r12_15, r12_16, r12_19, r12_20, wo_nx, wo_ret, wo_ite, wo_call, bk_inl, mj_lda, mj_ldi, mj_sti, mj_sta, mj_b2, mj_br1, mj_br2, mj_brn, mj_ir, mj_rr, mj_nx, mj_gf, mj_fld, mj_k2, mj_rc, mj_cls, mj_dup, mj_inc, List.getElem?_cons_zero, List.getElem?_cons_succ, List.length_cons, List.length_nil, List.set_cons_succ, List.set_cons_zero, Nat.reduceAdd, Nat.reduceLT, if_true, if_false, mj_iif, decide_eq_true_eq, List.take_succ_cons, List.take_zero, List.reverse_cons, List.reverse_nil, List.nil_append, List.cons_append, List.drop_succ_cons, List.drop_zero, List.map_cons, List.map_nil, cat_i, cat_r, cat_n, Nat.reduceLeDiff, true_and, and_true, decide_true, Option.toList_some, Option.toList_none, and_self, Nat.le_refl, ha, mL_11, l_mem ha hm hs, h, k_01, k_10, mj_zr, or_false]
  · simp only [r12_0, r12_1, r12_2, r12_5, r12_8, r12_9, r12_10, r12_11, r12_12, r12_15, r12_16, r12_19, r12_20, wo_nx, wo_ret, wo_ite, wo_call, bk_inl, mj_lda, mj_ldi, mj_sti, mj_sta, mj_b2, mj_br1, mj_br2, mj_brn, mj_ir, mj_rr, mj_nx, mj_gf, mj_fld, mj_k2, mj_rc, mj_cls, mj_dup, mj_inc, List.getElem?_cons_zero, List.getElem?_cons_succ, List.length_cons, List.length_nil, List.set_cons_succ, List.set_cons_zero, Nat.reduceAdd, Nat.reduceLT, if_true, if_false, mj_iif, decide_eq_true_eq, List.take_succ_cons, List.take_zero, List.reverse_cons, List.reverse_nil, List.nil_append, List.cons_append, List.drop_succ_cons, List.drop_zero, List.map_cons, List.map_nil, cat_i, cat_r, cat_n, Nat.reduceLeDiff, true_and, and_true, decide_true, Option.toList_some, Option.toList_none, and_self, Nat.le_refl, ha, mL_11, l_mem ha hm hs, h, k_01, k_10, mj_zr, or_false, false_or]
theorem l_win {a kn : Nat} {y z w : Value} {fs : List Value} (ha : σ.2.2 a = some (.inr (1, y :: z :: w :: .int (nI kn) :: fs))) (hs : kn ≤ 100) : mj_wp (tb ar) 13 (mj_en (tb ar) 13 [.ref a] σ) Q ↔ Q (.inl (some (.int (nI (min 100 (kn + 4)))))) σ := by
  rw [en_13]
  have c2 : (if nI (kn + 4) < (100 : Int32) then nI (kn + 4) else 100) = nI (min 100 (kn + 4)) := by
    by_cases h : kn + 4 < 100
    · rw [if_pos (by rw [← nI_100]; exact nI_lt h (by decide)), Nat.min_eq_right (by omega)]
    · rw [if_neg (by rw [← nI_100]; exact nI_nlt (by omega) (by omega)), Nat.min_eq_left (by omega)]
      rfl
  simp only [r13_0, r13_2, r13_3, r13_6, r13_7, r13_8, r13_11, wo_nx, wo_ret, wo_ite, wo_call, bk_inl, mj_lda, mj_ldi, mj_sti, mj_sta, mj_b2, mj_br1, mj_br2, mj_brn, mj_ir, mj_rr, mj_nx, mj_gf, mj_fld, mj_k2, mj_rc, mj_cls, mj_dup, mj_inc, List.getElem?_cons_zero, List.getElem?_cons_succ, List.length_cons, List.length_nil, List.set_cons_succ, List.set_cons_zero, Nat.reduceAdd, Nat.reduceLT, if_true, if_false, mj_iif, decide_eq_true_eq, List.take_succ_cons, List.take_zero, List.reverse_cons, List.reverse_nil, List.nil_append, List.cons_append, List.drop_succ_cons, List.drop_zero, List.map_cons, List.map_nil, cat_i, cat_r, cat_n, Nat.reduceLeDiff, true_and, and_true, decide_true, Option.toList_some, Option.toList_none, and_self, Nat.le_refl, ha, nI_4, mj_mm, c2]
/-- KNOWN goes on -/
def l_adv (f g : Nat → Int32) : Nat → Nat → (Nat → Int32) → Nat × (Nat → Int32)
  | 0, kn, mb => (kn, mb)
  | j + 1, kn, mb => if f kn = 0 then (kn, mb) else l_adv f g j (kn + 1) (upd mb (kn + 4) (mb (kn + 3) &&& (go_bit (g kn) ^^^ (-1))))
theorem l_put_loop {a t c m : Nat} {f g : Nat → Int32} {sl cm sz en go lg : Value} (hat : t ≠ a) (hac : c ≠ a) (ham : m ≠ a) (htm : t ≠ m) (hcm : c ≠ m) (ht : σ.2.2 t = some (w_ba ar 100 f)) (hc : σ.2.2 c = some (w_ia ar 100 g)) : ∀ (j kn : Nat) (mb : Nat → Int32) (L3 : Option Value), kn + j = 100 →
    (mj_wp (tb ar) 14 (84, [some (.ref a), some sl, some cm, L3], [], mj_up (mj_up σ m (w_ia ar 104 mb)) a (.inr (1, [.ref t, .ref c, .ref m, .int (nI kn), sz, en, go, lg]))) Q ↔ Q (.inl none) (mj_up (mj_up σ m (w_ia ar 104 (l_adv f g j kn mb).2)) a (.inr (1, [.ref t, .ref c, .ref m, .int (nI (l_adv f g j kn mb).1), sz, en, go, lg]))))
  | 0, kn, mb, L3, h => by
    have c1 : (100 : Int32) ≤ nI kn := by rw [← nI_100]; exact nI_le (by omega) (by omega)
    simp only [r14_84, r14_85, r14_88, r14_90, r14_159, wo_nx, wo_ret, wo_ite, wo_call, bk_inl, mj_lda, mj_ldi, mj_sti, mj_sta, mj_b2, mj_br1, mj_br2, mj_brn, mj_ir, mj_rr, mj_nx, mj_gf, mj_fld, mj_k2, mj_rc, mj_cls, mj_dup, mj_inc, List.getElem?_cons_zero, List.getElem?_cons_succ, List.length_cons, List.length_nil, List.set_cons_succ, List.set_cons_zero, Nat.reduceAdd, Nat.reduceLT, if_true, if_false, mj_iif, decide_eq_true_eq, List.take_succ_cons, List.take_zero, List.reverse_cons, List.reverse_nil, List.nil_append, List.cons_append, List.drop_succ_cons, List.drop_zero, List.map_cons, List.map_nil, cat_i, cat_r, cat_n, Nat.reduceLeDiff, true_and, and_true, decide_true, Option.toList_some, Option.toList_none, and_self, Nat.le_refl, up_eq, c1, mj_vr, l_adv]
  | j + 1, kn, mb, L3, h => by
    have c1 : ¬ (100 : Int32) ≤ nI kn := by rw [← nI_100]; exact nI_ge (by omega) (by decide)
    have hix : mj_ix (nI kn) 100 = true := ix_of (by omega) (by decide)
    have hcl : (nI kn).toNatClampNeg = kn := nI_clamp (by omega)
    have hix4 : mj_ix (nI (kn + 4)) 104 = true := ix_of (by omega) (by decide)
    have hcl4 : (nI (kn + 4)).toNatClampNeg = kn + 4 := nI_clamp (by omega)
    have hix3 : mj_ix (nI (kn + 3)) 104 = true := ix_of (by omega) (by decide)
    have hcl3 : (nI (kn + 3)).toNatClampNeg = kn + 3 := nI_clamp (by omega)
    have p1 : nI (kn + 4) - 1 = nI (kn + 3) := nI_pred (kn + 3)
    have t1 : ∀ e e', (mj_up (mj_up σ m e) a e').2.2 t = some (w_ba ar 100 f) := fun e e' => by rw [up_ne hat, up_ne htm]; exact ht
    have g1 : ∀ e e', (mj_up (mj_up σ m e) a e').2.2 c = some (w_ia ar 100 g) := fun e e' => by rw [up_ne hac, up_ne hcm]; exact hc
    have m1 : ∀ e e', (mj_up (mj_up σ m e) a e').2.2 m = some e := fun e e' => by rw [up_ne ham, up_eq]
    have m2 : ∀ e e' e'', mj_up (mj_up (mj_up σ m e) a e') m e'' = mj_up (mj_up σ m e'') a e' := fun e e' e'' => by rw [up_cm (Ne.symm ham), up_up]
    by_cases hf : f kn = 0
    · have e1 : l_adv f g (j + 1) kn mb = (kn, mb) := by rw [l_adv, if_pos hf]
      rw [e1]
      simp only [r14_84, r14_85, r14_88, r14_90, r14_93, r14_94, r14_97, r14_98, r14_101, r14_102, r14_159, wo_nx, wo_ret, wo_ite, wo_call, bk_inl, mj_lda, mj_ldi, mj_sti, mj_sta, mj_b2, mj_br1, mj_br2, mj_brn, mj_ir, mj_rr, mj_nx, mj_gf, mj_fld, mj_k2, mj_rc, mj_cls, mj_dup, mj_inc, List.getElem?_cons_zero, List.getElem?_cons_succ, List.length_cons, List.length_nil, List.set_cons_succ, List.set_cons_zero, Nat.reduceAdd, Nat.reduceLT, if_true, if_false, mj_iif, decide_eq_true_eq, List.take_succ_cons, List.take_zero, List.reverse_cons, List.reverse_nil, List.nil_append, List.cons_append, List.drop_succ_cons, List.drop_zero, List.map_cons, List.map_nil, cat_i, cat_r, cat_n, Nat.reduceLeDiff, true_and, and_true, decide_true, Option.toList_some, Option.toList_none, and_self, Nat.le_refl, up_eq, c1, t1, mj_il, mj_ia, ar_1, hix, hcl, hf, mj_vr]
    · have e1 : l_adv f g (j + 1) kn mb = l_adv f g j (kn + 1) (upd mb (kn + 4) (mb (kn + 3) &&& (go_bit (g kn) ^^^ (-1)))) := by rw [l_adv, if_neg hf]
      rw [e1]
      have ih := l_put_loop (sl := sl) (cm := cm) (sz := sz) (en := en) (go := go) (lg := lg) hat hac ham htm hcm ht hc j (kn + 1) (upd mb (kn + 4) (mb (kn + 3) &&& (go_bit (g kn) ^^^ (-1)))) (some (.int (go_bit (g kn)))) (by omega)
      refine Iff.trans ?_ ih
      rw [r14_84]
      simp only [r14_85, r14_88, r14_90, r14_93, r14_94, r14_97, r14_98, r14_101, r14_102, r14_105, r14_106, r14_109, r14_110, r14_113, r14_114, r14_117, r14_118, r14_119, r14_122, r14_123, r14_126, r14_127, r14_128, r14_129, r14_132, r14_133, r14_136, r14_137, r14_138, r14_139, r14_140, r14_141, r14_142, r14_143, r14_144, r14_145, r14_146, r14_147, r14_148, r14_151, r14_152, r14_153, r14_156, wo_nx, wo_ret, wo_ite, wo_call, bk_inl, mj_lda, mj_ldi, mj_sti, mj_sta, mj_b2, mj_br1, mj_br2, mj_brn, mj_ir, mj_rr, mj_nx, mj_gf, mj_fld, mj_k2, mj_rc, mj_cls, mj_dup, mj_inc, List.getElem?_cons_zero, List.getElem?_cons_succ, List.length_cons, List.length_nil, List.set_cons_succ, List.set_cons_zero, Nat.reduceAdd, Nat.reduceLT, if_true, if_false, mj_iif, decide_eq_true_eq, List.take_succ_cons, List.take_zero, List.reverse_cons, List.reverse_nil, List.nil_append, List.cons_append, List.drop_succ_cons, List.drop_zero, List.map_cons, List.map_nil, cat_i, cat_r, cat_n, Nat.reduceLeDiff, true_and, and_true, decide_true, Option.toList_some, Option.toList_none, and_self, Nat.le_refl, up_eq, up_up, c1, t1, g1, m1, m2, mj_il, mj_is, mj_ia, mj_sa, ar_0, ar_1, hix, hcl, hix4, hcl4, hix3, hcl3, hf, mL_86, g_bit, nI_4, nI_1, p1, mj_pf, mj_sf, mj_fit, Option.isSome_some]
end LO
