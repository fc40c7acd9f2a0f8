section CN
variable {ar : Nat → ClassId} {A A' : tg_T → Nat} {s s' : cs_S} {σ : mj_S} {e e0 : va_E} {w : Nat → Int32} {k i x : Nat} {Q : (Option Value ⊕ String) → mj_S → Prop}
theorem en_21 {a b : Value} : mj_en (tb ar) 21 [a, b] σ = (0, [some a, some b], [], σ) := rfl
theorem mL_7 : mj_mL (tb ar) 7 = 2 := rfl
theorem mL_10 : mj_mL (tb ar) 10 = 2 := rfl
theorem C_has {sl : Nat} (h : tg_R A (cs_h ar A s) σ) (hi : i < s.1) (hs : sl < 100) : mj_wp (tb ar) 10 (mj_en (tb ar) 10 [.ref (A (14, i)), .int (nI sl)] σ) Q ↔ Q (.inl (some (.int (if cs_v s 15 i sl = 0 then 0 else 1)))) σ := l_has (cs_g (k := 14) h (if_pos hi)) (cs_g (k := 15) h (if_pos hi)) hs
theorem C_hasP {sl : Nat} (h : tg_R A (cs_h ar A s) σ) (hi : i < s.1) (hs : sl < 100) : mj_wp (tb ar) 7 (mj_en (tb ar) 7 [.ref (A (20, i)), .int (nI sl)] σ) Q ↔ Q (.inl (some (.int (if cs_v s 22 i sl = 0 then 0 else 1)))) σ := e_has (cs_g (k := 20) h (if_pos hi)) (cs_g (k := 22) h (if_pos hi)) hs
theorem C_mem {sl : Nat} (h : tg_R A (cs_h ar A s) σ) (hi : i < s.1) (hs : sl < 104) : mj_wp (tb ar) 11 (mj_en (tb ar) 11 [.ref (A (14, i)), .int (nI sl)] σ) Q ↔ Q (.inl (some (.int (cs_v s 17 i sl)))) σ := l_mem (cs_g (k := 14) h (if_pos hi)) (cs_g (k := 17) h (if_pos hi)) hs
theorem C_ism {kn : Nat} {y : Int32} (h : tg_R A (cs_h ar A s) σ) (hi : i < s.1) (hk : cs_v s 14 i 3 = nI kn) (hs : kn < 104) : mj_wp (tb ar) 12 (mj_en (tb ar) 12 [.ref (A (14, i)), .int y] σ) Q ↔ Q (.inl (some (.int (if (cs_v s 17 i kn >>> (y &&& 31)) &&& 1 = 0 then 0 else 1)))) σ := by
  have g := cs_g (k := 14) h (if_pos hi)
  rw [hk] at g
  exact l_ism g (cs_g (k := 17) h (if_pos hi)) hs
theorem C_win {kn : Nat} (h : tg_R A (cs_h ar A s) σ) (hi : i < s.1) (hk : cs_v s 14 i 3 = nI kn) (hs : kn ≤ 100) : mj_wp (tb ar) 13 (mj_en (tb ar) 13 [.ref (A (14, i))] σ) Q ↔ Q (.inl (some (.int (nI (min 100 (kn + 4)))))) σ := by
  have g := cs_g (k := 14) h (if_pos hi)
  rw [hk] at g
  exact l_win g hs
theorem C_open {sl : Nat} (h : tg_R A (cs_h ar A s) σ) (hi : i < s.1) (hs : sl < 100) : mj_wp (tb ar) 21 (mj_en (tb ar) 21 [.ref (A (13, i)), .int (nI sl)] σ) Q ↔ Q (.inl (some (.int (if ¬ cs_v s 22 i sl = 0 ∧ cs_v s 15 i sl = 0 then 1 else 0)))) σ := by
  rw [en_21]
  have g13 := cs_g (k := 13) h (if_pos hi)
  have g14 := cs_g (k := 14) h (if_pos hi)
  have g20 := cs_g (k := 20) h (if_pos hi)
  by_cases h1 : cs_v s 22 i sl = 0
  · simp only [r21_0, r21_1, r21_4, r21_5, r21_8, r21_26, r21_27, wo_nx, wo_ret, wo_ite, wo_call, bk_inl, mj_lda, mj_ldi, mj_sti, mj_sta, mj_b2, mj_br1, mj_br2, mj_brn, mj_ir, mj_rr, mj_nx, mj_gf, mj_fld, mj_k2, mj_rc, mj_cls, mj_dup, mj_inc, List.getElem?_cons_zero, List.getElem?_cons_succ, List.length_cons, List.length_nil, List.set_cons_succ, List.set_cons_zero, Nat.reduceAdd, Nat.reduceLT, if_true, if_false, mj_iif, decide_eq_true_eq, List.take_succ_cons, List.take_zero, List.reverse_cons, List.reverse_nil, List.nil_append, List.cons_append, List.drop_succ_cons, List.drop_zero, List.map_cons, List.map_nil, cat_i, cat_r, cat_n, Nat.reduceLeDiff, true_and, and_true, decide_true, Option.toList_some, Option.toList_none, and_self, Nat.le_refl, g13, g20, mL_7, C_hasP h hi hs, h1, k_01, mj_zr, true_or, not_true_eq_false, false_and]
  · by_cases h2 : cs_v s 15 i sl = 0
    · simp only [r21_0, r21_1, r21_4, r21_5, r21_8, r21_11, r21_12, r21_15, r21_16, r21_19, r21_22, r21_23, r21_27, wo_nx, wo_ret, wo_ite, wo_call, bk_inl, mj_lda, mj_ldi, mj_sti, mj_sta, mj_b2, mj_br1, mj_br2, mj_brn, mj_ir, mj_rr, mj_nx, mj_gf, mj_fld, mj_k2, mj_rc, mj_cls, mj_dup, mj_inc, List.getElem?_cons_zero, List.getElem?_cons_succ, List.length_cons, List.length_nil, List.set_cons_succ, List.set_cons_zero, Nat.reduceAdd, Nat.reduceLT, if_true, if_false, mj_iif, decide_eq_true_eq, List.take_succ_cons, List.take_zero, List.reverse_cons, List.reverse_nil, List.nil_append, List.cons_append, List.drop_succ_cons, List.drop_zero, List.map_cons, List.map_nil, cat_i, cat_r, cat_n, Nat.reduceLeDiff, true_and, and_true, decide_true, Option.toList_some, Option.toList_none, and_self, Nat.le_refl, g13, g14, g20, mL_7, mL_10, C_hasP h hi hs, C_has h hi hs, h1, h2, k_10, mj_zr, or_true, not_false_eq_true, ne_eq, not_true_eq_false]
    · simp only [r21_0, r21_1, r21_4, r21_5, r21_8, r21_11, r21_12, r21_15, r21_16, r21_19, r21_26, r21_27, wo_nx, wo_ret, wo_ite, wo_call, bk_inl, mj_lda, mj_ldi, mj_sti, mj_sta, mj_b2, mj_br1, mj_br2, mj_brn, mj_ir, mj_rr, mj_nx, mj_gf, mj_fld, mj_k2, mj_rc, mj_cls, mj_dup, mj_inc, List.getElem?_cons_zero, List.getElem?_cons_succ, List.length_cons, List.length_nil, List.set_cons_succ, List.set_cons_zero, Nat.reduceAdd, Nat.reduceLT, if_true, if_false, mj_iif, decide_eq_true_eq, List.take_succ_cons, List.take_zero, List.reverse_cons, List.reverse_nil, List.nil_append, List.cons_append, List.drop_succ_cons, List.drop_zero, List.map_cons, List.map_nil, cat_i, cat_r, cat_n, Nat.reduceLeDiff, true_and, and_true, decide_true, Option.toList_some, Option.toList_none, and_self, Nat.le_refl, g13, g14, g20, mL_7, mL_10, C_hasP h hi hs, C_has h hi hs, h1, h2, k_10, mj_zr, true_or, not_false_eq_true, ne_eq, and_false]
/-- a command goes into a LOG -/
def cs_log (s : cs_S) (i sl : Nat) (y : Int32) (kn : Nat) (mb w : Nat → Int32) : cs_S := cs_u (cs_u (cs_u (cs_u s 15 i (upd (cs_v s 15 i) sl 1)) 16 i (upd (cs_v s 16 i) sl y)) 17 i mb) 14 i w
def cs_lw (s : cs_S) (i sl : Nat) (y : Int32) (kn : Nat) : Nat → Int32
  | 3 => nI kn
  | 4 => cs_v s 14 i 4 + 1
  | 5 => if cs_v s 14 i 5 < nI (sl + 1) then nI (sl + 1) else cs_v s 14 i 5
  | 6 => if y < 0 then cs_v s 14 i 6 ||| go_bit y else cs_v s 14 i 6
  | 7 => if y < 0 then (if cs_v s 14 i 7 < nI sl then nI sl else cs_v s 14 i 7) else cs_v s 14 i 7
  | _ => 0
def cs_adv (s : cs_S) (i sl : Nat) (y : Int32) (kn : Nat) : Nat × (Nat → Int32) := l_adv (upd (cs_v s 15 i) sl 1) (upd (cs_v s 16 i) sl y) (100 - kn) kn (cs_v s 17 i)
theorem C_lput {sl kn : Nat} {y : Int32} (h : tg_R A (cs_h ar A s) σ) (hi : i < s.1) (hk : cs_v s 14 i 3 = nI kn) (hk1 : kn ≤ 100) (hs : sl < 100) (hf : cs_v s 15 i sl = 0) (hQ : ∀ τ, cs_n σ τ → tg_R A (cs_h ar A (cs_log s i sl y kn (cs_adv s i sl y kn).2 (cs_lw s i sl y (cs_adv s i sl y kn).1))) τ → Q (.inl none) τ) : mj_wp (tb ar) 14 (mj_en (tb ar) 14 [.ref (A (14, i)), .int (nI sl), .int y] σ) Q := by
  have g14 := cs_g (k := 14) h (if_pos hi)
  have g15 := cs_g (k := 15) h (if_pos hi)
  have g16 := cs_g (k := 16) h (if_pos hi)
  have g17 := cs_g (k := 17) h (if_pos hi)
  rw [hk] at g14
  have n57 := tg_ne (t := (15, i)) (u := (17, i)) h (if_pos hi) (if_pos hi) (by simp)
  have n67 := tg_ne (t := (16, i)) (u := (17, i)) h (if_pos hi) (if_pos hi) (by simp)
  have n56 := tg_ne (t := (15, i)) (u := (16, i)) h (if_pos hi) (if_pos hi) (by simp)
  rw [l_put (Ne.symm (ne_arr g14 g15)) (Ne.symm (ne_arr g14 g16)) (Ne.symm (ne_arr g14 g17)) n57 n67 n56 g14 g15 g16 g17 hk1 hs hf]
  refine hQ _ ⟨rfl, rfl⟩ ?_
  exact cs_set (cs_set (cs_set (cs_set h (if_pos hi) (if_pos hi)) (if_pos hi) (if_pos hi)) (if_pos hi) (if_pos hi)) (if_pos hi) (if_pos hi)
end CN
