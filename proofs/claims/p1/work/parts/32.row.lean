section RO
variable {ar : Nat → ClassId} {σ : mj_S} {Q : (Option Value ⊕ String) → mj_S → Prop}
/-- an int[] of n places -/
abbrev w_ia (ar : Nat → ClassId) (n : Nat) (f : Nat → Int32) : va_E := .inl (ar 0, n, .inl f)
theorem ar_0 : mj_ar (tb ar) 0 = ar 0 := rfl
theorem add_eq {n : Nat} {e : va_E} : (mj_add σ n e).2.2 σ.1 = some e := by simp [mj_add]
theorem add_ne {n b : Nat} {e : va_E} (h : b ≠ σ.1) : (mj_add σ n e).2.2 b = σ.2.2 b := by simp [mj_add, h]
theorem add_1 {n : Nat} {e : va_E} : (mj_add σ n e).1 = σ.1 + 1 := rfl
theorem up_add {n a : Nat} {v e : va_E} (h : a ≠ σ.1) : mj_add (mj_up σ a v) n e = mj_up (mj_add σ n e) a v := by
  unfold mj_add mj_up
  dsimp only
  congr 2
  funext b
  by_cases hb : b = σ.1
  · subst hb
    simp [Ne.symm h]
  · simp [hb]
theorem up_1 {a : Nat} {e : va_E} : (mj_up σ a e).1 = σ.1 := rfl
theorem ix_of {s n : Nat} (h : s < n) (hn : n < 2 ^ 31) : mj_ix (nI s) n = true := by
  unfold mj_ix
  rw [nI_clamp (by omega)]
  simp [nI_pos (show s < 2 ^ 31 by omega)]
  omega
theorem mL_85 : mj_mL (tb ar) 85 = 1 := rfl
theorem en_85 {a : Value} : mj_en (tb ar) 85 [a] σ = (0, [some a], [], σ) := rfl
theorem en_23 {a b c d e f g : Value} : mj_en (tb ar) 23 [a, b, c, d, e, f, g] σ = (0, [some a, some b, some c, some d, some e, some f, some g], [], σ) := rfl
theorem en_31 {a : Value} : mj_en (tb ar) 31 [a] σ = (0, [some a], [], σ) := rfl
theorem en_24 {a : Value} : mj_en (tb ar) 24 [a] σ = (0, [some a], [], σ) := rfl
theorem en_32 {a b c d : Value} : mj_en (tb ar) 32 [a, b, c, d] σ = (0, [some a, some b, some c, some d], [], σ) := rfl
theorem en_33 {a b : Value} : mj_en (tb ar) 33 [a, b] σ = (0, [some a, some b, none, none], [], σ) := rfl
theorem en_34 {a b : Value} : mj_en (tb ar) 34 [a, b] σ = (0, [some a, some b, none], [], σ) := rfl
theorem en_35 {a : Value} : mj_en (tb ar) 35 [a] σ = (0, [some a, none, none], [], σ) := rfl
theorem mL_31 : mj_mL (tb ar) 31 = 1 := rfl
theorem nI_100 : nI 100 = 100 := rfl
theorem i_slot {i : Int32} : mj_wp (tb ar) 85 (mj_en (tb ar) 85 [.int i] σ) Q ↔ Q (.inl (some (.int (if ¬ i < 0 ∧ i < 100 then 1 else 0)))) σ := by
  rw [en_85]
  have k0 : ((0 : Int32) = 1) = False := by simp
  have k1 : ((1 : Int32) = 0) = False := by simp
  by_cases h1 : i < 0
  · simp only [r85_0, r85_1, r85_4, r85_5, r85_7, r85_10, r85_11, r85_14, r85_15, wo_nx, wo_ret, wo_ite, wo_call, bk_inl, mj_lda, mj_ldi, mj_sti, mj_sta, mj_b2, mj_br1, mj_br2, mj_brn, mj_ir, mj_rr, mj_nx, mj_gf, mj_fld, mj_k2, mj_rc, mj_cls, mj_dup, mj_inc, List.getElem?_cons_zero, List.getElem?_cons_succ, List.length_cons, List.length_nil, List.set_cons_succ, List.set_cons_zero, Nat.reduceAdd, Nat.reduceLT, if_true, if_false, mj_iif, decide_eq_true_eq, List.take_succ_cons, List.take_zero, List.reverse_cons, List.reverse_nil, List.nil_append, List.cons_append, List.drop_succ_cons, List.drop_zero, List.map_cons, List.map_nil, cat_i, cat_r, cat_n, Nat.reduceLeDiff, true_and, and_true, decide_true, Option.toList_some, Option.toList_none, and_self, Nat.le_refl, mj_zr, h1, not_true_eq_false, false_and, true_or]
  · by_cases h2 : i < 100
    · have h3 : ¬ (100 : Int32) ≤ i := Int32.not_le.mpr h2
      simp only [r85_0, r85_1, r85_4, r85_5, r85_7, r85_10, r85_11, r85_14, r85_15, wo_nx, wo_ret, wo_ite, wo_call, bk_inl, mj_lda, mj_ldi, mj_sti, mj_sta, mj_b2, mj_br1, mj_br2, mj_brn, mj_ir, mj_rr, mj_nx, mj_gf, mj_fld, mj_k2, mj_rc, mj_cls, mj_dup, mj_inc, List.getElem?_cons_zero, List.getElem?_cons_succ, List.length_cons, List.length_nil, List.set_cons_succ, List.set_cons_zero, Nat.reduceAdd, Nat.reduceLT, if_true, if_false, mj_iif, decide_eq_true_eq, List.take_succ_cons, List.take_zero, List.reverse_cons, List.reverse_nil, List.nil_append, List.cons_append, List.drop_succ_cons, List.drop_zero, List.map_cons, List.map_nil, cat_i, cat_r, cat_n, Nat.reduceLeDiff, true_and, and_true, decide_true, Option.toList_some, Option.toList_none, and_self, Nat.le_refl, mj_zr, h1, h2, h3, not_false_eq_true, or_true]
    · have h3 : (100 : Int32) ≤ i := Int32.not_lt.mp h2
      simp only [r85_0, r85_1, r85_4, r85_5, r85_7, r85_10, r85_11, r85_14, r85_15, wo_nx, wo_ret, wo_ite, wo_call, bk_inl, mj_lda, mj_ldi, mj_sti, mj_sta, mj_b2, mj_br1, mj_br2, mj_brn, mj_ir, mj_rr, mj_nx, mj_gf, mj_fld, mj_k2, mj_rc, mj_cls, mj_dup, mj_inc, List.getElem?_cons_zero, List.getElem?_cons_succ, List.length_cons, List.length_nil, List.set_cons_succ, List.set_cons_zero, Nat.reduceAdd, Nat.reduceLT, if_true, if_false, mj_iif, decide_eq_true_eq, List.take_succ_cons, List.take_zero, List.reverse_cons, List.reverse_nil, List.nil_append, List.cons_append, List.drop_succ_cons, List.drop_zero, List.map_cons, List.map_nil, cat_i, cat_r, cat_n, Nat.reduceLeDiff, true_and, and_true, decide_true, Option.toList_some, Option.toList_none, and_self, Nat.le_refl, mj_zr, h1, h2, h3, and_false, true_or]
theorem i_slot1 {s : Nat} (h : s < 100) : mj_wp (tb ar) 85 (mj_en (tb ar) 85 [.int (nI s)] σ) Q ↔ Q (.inl (some (.int 1))) σ := by
  rw [i_slot, if_pos ⟨nI_pos (by omega), by rw [← nI_100]; exact nI_lt h (by decide)⟩]
theorem m_set {x : Nat} {a b c d e f : Int32} {t v0 v1 v2 v3 v4 v5 : Value} (hx : σ.2.2 x = some (.inr (4, [v0, v1, v2, v3, v4, v5, t]))) : mj_wp (tb ar) 23 (mj_en (tb ar) 23 [.ref x, .int a, .int b, .int c, .int d, .int e, .int f] σ) Q ↔ Q (.inl none) (mj_up σ x (.inr (4, [.int a, .int b, .int c, .int d, .int e, .int f, t]))) := by
  rw [en_23]
  simp only [r23_0, r23_1, r23_2, r23_5, r23_6, r23_7, r23_10, r23_11, r23_12, r23_15, r23_16, r23_18, r23_21, r23_22, r23_24, r23_27, r23_28, r23_30, r23_33, wo_nx, wo_ret, wo_ite, wo_call, bk_inl, mj_lda, mj_ldi, mj_sti, mj_sta, mj_b2, mj_br1, mj_br2, mj_brn, mj_ir, mj_rr, mj_nx, mj_gf, mj_fld, mj_k2, mj_rc, mj_cls, mj_dup, mj_inc, List.getElem?_cons_zero, List.getElem?_cons_succ, List.length_cons, List.length_nil, List.set_cons_succ, List.set_cons_zero, Nat.reduceAdd, Nat.reduceLT, if_true, if_false, mj_iif, decide_eq_true_eq, List.take_succ_cons, List.take_zero, List.reverse_cons, List.reverse_nil, List.nil_append, List.cons_append, List.drop_succ_cons, List.drop_zero, List.map_cons, List.map_nil, cat_i, cat_r, cat_n, Nat.reduceLeDiff, true_and, and_true, decide_true, Option.toList_some, Option.toList_none, and_self, Nat.le_refl, hx, mj_pf, mj_sf, mj_fit, mj_vr, up_eq, up_up, Option.isSome_some]
/-- a Row's constructor, right behind 'new' -/
theorem w_init {a : Nat} (ha : a ≠ σ.1) (ha' : a ≠ σ.1 + 1) (h : σ.2.2 a = some (.inr (7, [.null, .null, .int 0, .int 0]))) : mj_wp (tb ar) 31 (mj_en (tb ar) 31 [.ref a] σ) Q ↔ Q (.inl none) (mj_up (mj_add (mj_add σ 100 (w_ia ar 100 (fun _ => 0))) 100 (w_ia ar 100 (fun _ => 0))) a (.inr (7, [.ref σ.1, .ref (σ.1 + 1), .int 0, .int 0]))) := by
  rw [en_31]
  have c1 : ((100 : Int32)).toNatClampNeg = 100 := by decide
  have c2 : ¬ (100 : Int32) < 0 := by decide
  have h1 : ∀ e : va_E, (mj_add σ 100 e).2.2 a = some (.inr (7, [.null, .null, .int 0, .int 0])) := fun e => by rw [add_ne ha]; exact h
  have h3 : ∀ (v e e' : va_E) (n : Nat), mj_add (mj_up (mj_add σ 100 e') a v) n e = mj_up (mj_add (mj_add σ 100 e') n e) a v := fun v e e' n => up_add (σ := mj_add σ 100 e') ha'
  simp only [r31_0, r31_1, r31_4, r31_5, r31_7, r31_9, r31_12, r31_13, r31_15, r31_17, r31_20, wo_nx, wo_ret, wo_ite, wo_call, bk_inl, mj_lda, mj_ldi, mj_sti, mj_sta, mj_b2, mj_br1, mj_br2, mj_brn, mj_ir, mj_rr, mj_nx, mj_gf, mj_fld, mj_k2, mj_rc, mj_cls, mj_dup, mj_inc, List.getElem?_cons_zero, List.getElem?_cons_succ, List.length_cons, List.length_nil, List.set_cons_succ, List.set_cons_zero, Nat.reduceAdd, Nat.reduceLT, if_true, if_false, mj_iif, decide_eq_true_eq, List.take_succ_cons, List.take_zero, List.reverse_cons, List.reverse_nil, List.nil_append, List.cons_append, List.drop_succ_cons, List.drop_zero, List.map_cons, List.map_nil, cat_i, cat_r, cat_n, Nat.reduceLeDiff, true_and, and_true, decide_true, Option.toList_some, Option.toList_none, and_self, Nat.le_refl, mj_oi, mj_newa, mj_pf, mj_sf, mj_fit, mj_vr, up_eq, up_up, up_1, add_1, Option.isSome_some, c1, c2, h1, h3, Nat.zero_le, not_false_eq_true, ar_0]
/-- a message's Row: there, or made -/
theorem m_room {x a : Nat} {v0 v1 v2 v3 v4 v5 : Value} (hx : σ.2.2 x = some (.inr (4, [v0, v1, v2, v3, v4, v5, .ref a]))) : mj_wp (tb ar) 24 (mj_en (tb ar) 24 [.ref x] σ) Q ↔ Q (.inl (some (.ref a))) σ := by
  rw [en_24]
  simp only [r24_0, r24_1, r24_4, r24_18, r24_19, r24_22, wo_nx, wo_ret, wo_ite, wo_call, bk_inl, mj_lda, mj_ldi, mj_sti, mj_sta, mj_b2, mj_br1, mj_br2, mj_brn, mj_ir, mj_rr, mj_nx, mj_gf, mj_fld, mj_k2, mj_rc, mj_cls, mj_dup, mj_inc, List.getElem?_cons_zero, List.getElem?_cons_succ, List.length_cons, List.length_nil, List.set_cons_succ, List.set_cons_zero, Nat.reduceAdd, Nat.reduceLT, if_true, if_false, mj_iif, decide_eq_true_eq, List.take_succ_cons, List.take_zero, List.reverse_cons, List.reverse_nil, List.nil_append, List.cons_append, List.drop_succ_cons, List.drop_zero, List.map_cons, List.map_nil, cat_i, cat_r, cat_n, Nat.reduceLeDiff, true_and, and_true, decide_true, Option.toList_some, Option.toList_none, and_self, Nat.le_refl, hx]
theorem m_room0 {x : Nat} {v0 v1 v2 v3 v4 v5 : Value} (hx : σ.2.2 x = some (.inr (4, [v0, v1, v2, v3, v4, v5, .null]))) (hn : x < σ.1) : mj_wp (tb ar) 24 (mj_en (tb ar) 24 [.ref x] σ) Q ↔ Q (.inl (some (.ref σ.1))) (mj_up (mj_up (mj_add (mj_add (mj_add σ 4 (.inr (7, [.null, .null, .int 0, .int 0]))) 100 (w_ia ar 100 (fun _ => 0))) 100 (w_ia ar 100 (fun _ => 0))) σ.1 (.inr (7, [.ref (σ.1 + 1), .ref (σ.1 + 2), .int 0, .int 0]))) x (.inr (4, [v0, v1, v2, v3, v4, v5, .ref σ.1]))) := by
  rw [en_24]
  have hi : ∀ Q : (Option Value ⊕ String) → mj_S → Prop, _ := fun Q => w_init (ar := ar) (Q := Q) (σ := mj_add σ 4 (.inr (7, [.null, .null, .int 0, .int 0]))) (a := σ.1) (by rw [add_1]; omega) (by rw [add_1]; omega) add_eq
  simp only [add_1] at hi
  have hx1 : ∀ (e1 e2 e3 e4 : va_E), (mj_up (mj_add (mj_add (mj_add σ 4 e1) 100 e2) 100 e3) σ.1 e4).2.2 x = some (.inr (4, [v0, v1, v2, v3, v4, v5, .null])) := fun e1 e2 e3 e4 => by
    rw [up_ne (by omega), add_ne (by simp only [add_1]; omega), add_ne (by simp only [add_1]; omega), add_ne (by omega)]
    exact hx
  simp only [r24_0, r24_1, r24_4, r24_7, r24_8, r24_11, r24_12, r24_15, r24_18, r24_19, r24_22, wo_nx, wo_ret, wo_ite, wo_call, bk_inl, mj_lda, mj_ldi, mj_sti, mj_sta, mj_b2, mj_br1, mj_br2, mj_brn, mj_ir, mj_rr, mj_nx, mj_gf, mj_fld, mj_k2, mj_rc, mj_cls, mj_dup, mj_inc, List.getElem?_cons_zero, List.getElem?_cons_succ, List.length_cons, List.length_nil, List.set_cons_succ, List.set_cons_zero, Nat.reduceAdd, Nat.reduceLT, if_true, if_false, mj_iif, decide_eq_true_eq, List.take_succ_cons, List.take_zero, List.reverse_cons, List.reverse_nil, List.nil_append, List.cons_append, List.drop_succ_cons, List.drop_zero, List.map_cons, List.map_nil, cat_i, cat_r, cat_n, Nat.reduceLeDiff, true_and, and_true, decide_true, Option.toList_some, Option.toList_none, and_self, Nat.le_refl, hx, mL_31, hi, mj_pf, mj_sf, mj_fit, up_eq, up_up, Option.isSome_some, hx1]
/-- put at a slot -/
theorem w_put {a b c s : Nat} {f g : Nat → Int32} {lo en x y : Int32} (hab : a ≠ b) (hac : a ≠ c) (hbc : c ≠ b) (ha : σ.2.2 a = some (.inr (7, [.ref b, .ref c, .int lo, .int en]))) (hb : σ.2.2 b = some (w_ia ar 100 f)) (hc : σ.2.2 c = some (w_ia ar 100 g)) (hs : s < 100) : mj_wp (tb ar) 32 (mj_en (tb ar) 32 [.ref a, .int (nI s), .int x, .int y] σ) Q ↔ Q (.inl none) (mj_up (mj_up (mj_up σ b (w_ia ar 100 (upd f s x))) c (w_ia ar 100 (upd g s y))) a (.inr (7, [.ref b, .ref c, .int lo, .int (if en < nI (s + 1) then nI (s + 1) else en)]))) := by
  rw [en_32]
  have k0 : ¬ (1 : Int32) = 0 := by decide
  have hix : mj_ix (nI s) 100 = true := ix_of hs (by decide)
  have hcl : (nI s).toNatClampNeg = s := nI_clamp (by omega)
  have ha1 : ∀ e, (mj_up σ b e).2.2 a = some (.inr (7, [.ref b, .ref c, .int lo, .int en])) := fun e => by rw [up_ne hab]; exact ha
  have ha2 : ∀ e e', (mj_up (mj_up σ b e) c e').2.2 a = some (.inr (7, [.ref b, .ref c, .int lo, .int en])) := fun e e' => by rw [up_ne hac, up_ne hab]; exact ha
  have hc1 : ∀ e, (mj_up σ b e).2.2 c = some (w_ia ar 100 g) := fun e => by rw [up_ne hbc]; exact hc
  simp only [r32_0, r32_1, r32_4, r32_8, r32_9, r32_12, r32_13, r32_14, r32_15, r32_16, r32_19, r32_20, r32_21, r32_22, r32_23, r32_24, r32_27, r32_28, r32_29, r32_30, r32_33, r32_36, wo_nx, wo_ret, wo_ite, wo_call, bk_inl, mj_lda, mj_ldi, mj_sti, mj_sta, mj_b2, mj_br1, mj_br2, mj_brn, mj_ir, mj_rr, mj_nx, mj_gf, mj_fld, mj_k2, mj_rc, mj_cls, mj_dup, mj_inc, List.getElem?_cons_zero, List.getElem?_cons_succ, List.length_cons, List.length_nil, List.set_cons_succ, List.set_cons_zero, Nat.reduceAdd, Nat.reduceLT, if_true, if_false, mj_iif, decide_eq_true_eq, List.take_succ_cons, List.take_zero, List.reverse_cons, List.reverse_nil, List.nil_append, List.cons_append, List.drop_succ_cons, List.drop_zero, List.map_cons, List.map_nil, cat_i, cat_r, cat_n, Nat.reduceLeDiff, true_and, and_true, decide_true, Option.toList_some, Option.toList_none, and_self, Nat.le_refl, mL_85, i_slot1 hs, k0, ha, ha1, ha2, hb, hc1, mj_is, mj_ia, mj_sa, hix, hcl, ar_0, mj_mm, mj_pf, mj_sf, mj_fit, mj_vr, Option.isSome_some, nI_1, ne_eq, not_false_eq_true]
/-- count -/
def w_cnt (f : Nat → Int32) : Nat → Nat
  | 0 => 0
  | n + 1 => w_cnt f n + (if f n = 0 then 0 else 1)
theorem w_cnt_le (f : Nat → Int32) : ∀ n, w_cnt f n ≤ n
  | 0 => Nat.le_refl _
  | n + 1 => by
    have := w_cnt_le f n
    unfold w_cnt
    split <;> omega
theorem w_count_loop {a b n : Nat} {f : Nat → Int32} {lo : Int32} {v : Value} (ha : σ.2.2 a = some (.inr (7, [.ref b, v, .int lo, .int (nI n)]))) (hb : σ.2.2 b = some (w_ia ar 100 f)) (hn : n ≤ 100) : ∀ (j s : Nat), s + j = n → (mj_wp (tb ar) 35 (4, [some (.ref a), some (.int (nI (w_cnt f s))), some (.int (nI s))], [], σ) Q ↔ Q (.inl (some (.int (nI (w_cnt f n))))) σ)
  | 0, s, h => by
    have h' : s = n := by omega
    subst h'
    have c1 : nI s ≤ nI s := nI_le (Nat.le_refl _) (by omega)
    simp only [r35_4, r35_5, r35_6, r35_9, r35_30, r35_31, wo_nx, wo_ret, wo_ite, wo_call, bk_inl, mj_lda, mj_ldi, mj_sti, mj_sta, mj_b2, mj_br1, mj_br2, mj_brn, mj_ir, mj_rr, mj_nx, mj_gf, mj_fld, mj_k2, mj_rc, mj_cls, mj_dup, mj_inc, List.getElem?_cons_zero, List.getElem?_cons_succ, List.length_cons, List.length_nil, List.set_cons_succ, List.set_cons_zero, Nat.reduceAdd, Nat.reduceLT, if_true, if_false, mj_iif, decide_eq_true_eq, List.take_succ_cons, List.take_zero, List.reverse_cons, List.reverse_nil, List.nil_append, List.cons_append, List.drop_succ_cons, List.drop_zero, List.map_cons, List.map_nil, cat_i, cat_r, cat_n, Nat.reduceLeDiff, true_and, and_true, decide_true, Option.toList_some, Option.toList_none, and_self, Nat.le_refl, ha, c1]
  | j + 1, s, h => by
    have ih := w_count_loop ha hb hn j (s + 1) (by omega)
    have c1 : ¬ nI n ≤ nI s := nI_ge (by omega) (by omega)
    have hix : mj_ix (nI s) 100 = true := ix_of (by omega) (by decide)
    have hcl : (nI s).toNatClampNeg = s := nI_clamp (by omega)
    refine Iff.trans ?_ ih
    rw [r35_4]
    by_cases hf : f s = 0
    · simp only [r35_5, r35_6, r35_9, r35_12, r35_13, r35_16, r35_17, r35_18, r35_21, r35_24, r35_27, wo_nx, wo_ret, wo_ite, wo_call, bk_inl, mj_lda, mj_ldi, mj_sti, mj_sta, mj_b2, mj_br1, mj_br2, mj_brn, mj_ir, mj_rr, mj_nx, mj_gf, mj_fld, mj_k2, mj_rc, mj_cls, mj_dup, mj_inc, List.getElem?_cons_zero, List.getElem?_cons_succ, List.length_cons, List.length_nil, List.set_cons_succ, List.set_cons_zero, Nat.reduceAdd, Nat.reduceLT, if_true, if_false, mj_iif, decide_eq_true_eq, List.take_succ_cons, List.take_zero, List.reverse_cons, List.reverse_nil, List.nil_append, List.cons_append, List.drop_succ_cons, List.drop_zero, List.map_cons, List.map_nil, cat_i, cat_r, cat_n, Nat.reduceLeDiff, true_and, and_true, decide_true, Option.toList_some, Option.toList_none, and_self, Nat.le_refl, ha, hb, c1, mj_il, mj_ia, hix, hcl, ar_0, hf, nI_1, w_cnt, Nat.add_zero]
    · simp only [r35_5, r35_6, r35_9, r35_12, r35_13, r35_16, r35_17, r35_18, r35_21, r35_24, r35_27, wo_nx, wo_ret, wo_ite, wo_call, bk_inl, mj_lda, mj_ldi, mj_sti, mj_sta, mj_b2, mj_br1, mj_br2, mj_brn, mj_ir, mj_rr, mj_nx, mj_gf, mj_fld, mj_k2, mj_rc, mj_cls, mj_dup, mj_inc, List.getElem?_cons_zero, List.getElem?_cons_succ, List.length_cons, List.length_nil, List.set_cons_succ, List.set_cons_zero, Nat.reduceAdd, Nat.reduceLT, if_true, if_false, mj_iif, decide_eq_true_eq, List.take_succ_cons, List.take_zero, List.reverse_cons, List.reverse_nil, List.nil_append, List.cons_append, List.drop_succ_cons, List.drop_zero, List.map_cons, List.map_nil, cat_i, cat_r, cat_n, Nat.reduceLeDiff, true_and, and_true, decide_true, Option.toList_some, Option.toList_none, and_self, Nat.le_refl, ha, hb, c1, mj_il, mj_ia, hix, hcl, ar_0, hf, nI_1, w_cnt]
theorem w_count {a b n : Nat} {f : Nat → Int32} {lo : Int32} {v : Value} (ha : σ.2.2 a = some (.inr (7, [.ref b, v, .int lo, .int (nI n)]))) (hb : σ.2.2 b = some (w_ia ar 100 f)) (hn : n ≤ 100) : mj_wp (tb ar) 35 (mj_en (tb ar) 35 [.ref a] σ) Q ↔ Q (.inl (some (.int (nI (w_cnt f n))))) σ := by
  rw [en_35]
  have hl := w_count_loop (ar := ar) (Q := Q) ha hb hn n 0 (by omega)
  refine Iff.trans ?_ hl
  simp only [r35_0, r35_1, r35_2, r35_3, wo_nx, wo_ret, wo_ite, wo_call, bk_inl, mj_lda, mj_ldi, mj_sti, mj_sta, mj_b2, mj_br1, mj_br2, mj_brn, mj_ir, mj_rr, mj_nx, mj_gf, mj_fld, mj_k2, mj_rc, mj_cls, mj_dup, mj_inc, List.getElem?_cons_zero, List.getElem?_cons_succ, List.length_cons, List.length_nil, List.set_cons_succ, List.set_cons_zero, Nat.reduceAdd, Nat.reduceLT, if_true, if_false, mj_iif, decide_eq_true_eq, List.take_succ_cons, List.take_zero, List.reverse_cons, List.reverse_nil, List.nil_append, List.cons_append, List.drop_succ_cons, List.drop_zero, List.map_cons, List.map_nil, cat_i, cat_r, cat_n, Nat.reduceLeDiff, true_and, and_true, decide_true, Option.toList_some, Option.toList_none, and_self, Nat.le_refl, w_cnt, nI_0]
end RO
