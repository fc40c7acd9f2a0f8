section CC
variable {ar : Nat → ClassId} {A : tg_T → Nat} {s : cs_S} {σ : mj_S} {e e0 : va_E} {w : Nat → Int32} {k i : Nat} {Q : (Option Value ⊕ String) → mj_S → Prop}
theorem cs_g (h : tg_R A (cs_h ar A s) σ) (hc : cs_c ar A s.1 s.2.1 s.2.2.1 (cs_r s k) (cs_v s k i) i k = some e) : σ.2.2 (A (k, i)) = some e := tg_get h hc
/-- no cell is made -/
def cs_n (σ τ : mj_S) : Prop := τ.1 = σ.1 ∧ τ.2.1 = σ.2.1
theorem kr_7 : mj_kr (tb ar) (ar 7) = true := by
  unfold mj_kr
  rw [List.any_eq_true]
  exact ⟨5, (show 5 ∈ ([3, 4, 5, 7] : List Nat) from by decide), by simp [mj_ar, tb]⟩
theorem kr_5 : mj_kr (tb ar) (ar 5) = true := by
  unfold mj_kr
  rw [List.any_eq_true]
  exact ⟨3, (show 3 ∈ ([3, 4, 5, 7] : List Nat) from by decide), by simp [mj_ar, tb]⟩
theorem en_50 {a : Value} : mj_en (tb ar) 50 [a] σ = (0, [some a], [], σ) := rfl
theorem en_56 {a : Value} : mj_en (tb ar) 56 [a] σ = (0, [some a], [], σ) := rfl
theorem en_57 {a b : Value} : mj_en (tb ar) 57 [a, b] σ = (0, [some a, some b], [], σ) := rfl
theorem en_49 {a b c : Value} : mj_en (tb ar) 49 [a, b, c] σ = (0, [some a, some b, some c, none], [], σ) := rfl
theorem mL_57 : mj_mL (tb ar) 57 = 2 := rfl
theorem kd_57 : mj_kd (tb ar) 57 = 0 := rfl
theorem C_way (h : tg_R A (cs_h ar A s) σ) : mj_wp (tb ar) 50 (mj_en (tb ar) 50 [.ref (A (0, 0))] σ) Q ↔ Q (.inl (some (.int (cs_v s 4 0 2)))) σ := by
  rw [en_50]
  simp only [r50_0, r50_1, r50_4, r50_7, r50_10, wo_nx, wo_ret, wo_ite, wo_call, bk_inl, mj_lda, mj_ldi, mj_sti, mj_sta, mj_b2, mj_br1, mj_br2, mj_brn, mj_ir, mj_rr, mj_nx, mj_gf, mj_fld, mj_k2, mj_rc, mj_cls, mj_dup, mj_inc, List.getElem?_cons_zero, List.getElem?_cons_succ, List.length_cons, List.length_nil, List.set_cons_succ, List.set_cons_zero, Nat.reduceAdd, Nat.reduceLT, if_true, if_false, mj_iif, decide_eq_true_eq, List.take_succ_cons, List.take_zero, List.reverse_cons, List.reverse_nil, List.nil_append, List.cons_append, List.drop_succ_cons, List.drop_zero, List.map_cons, List.map_nil, cat_i, cat_r, cat_n, Nat.reduceLeDiff, true_and, and_true, decide_true, Option.toList_some, Option.toList_none, and_self, Nat.le_refl, cs_g (k := 0) (i := 0) h rfl, cs_g (k := 3) (i := 0) h rfl, cs_g (k := 4) (i := 0) h rfl]
theorem C_lost (h : tg_R A (cs_h ar A s) σ) : mj_wp (tb ar) 56 (mj_en (tb ar) 56 [.ref (A (0, 0))] σ) Q ↔ Q (.inl (some (.int (cs_v s 3 0 4)))) σ := by
  rw [en_56]
  simp only [r56_0, r56_1, r56_4, r56_7, wo_nx, wo_ret, wo_ite, wo_call, bk_inl, mj_lda, mj_ldi, mj_sti, mj_sta, mj_b2, mj_br1, mj_br2, mj_brn, mj_ir, mj_rr, mj_nx, mj_gf, mj_fld, mj_k2, mj_rc, mj_cls, mj_dup, mj_inc, List.getElem?_cons_zero, List.getElem?_cons_succ, List.length_cons, List.length_nil, List.set_cons_succ, List.set_cons_zero, Nat.reduceAdd, Nat.reduceLT, if_true, if_false, mj_iif, decide_eq_true_eq, List.take_succ_cons, List.take_zero, List.reverse_cons, List.reverse_nil, List.nil_append, List.cons_append, List.drop_succ_cons, List.drop_zero, List.map_cons, List.map_nil, cat_i, cat_r, cat_n, Nat.reduceLeDiff, true_and, and_true, decide_true, Option.toList_some, Option.toList_none, and_self, Nat.le_refl, cs_g (k := 0) (i := 0) h rfl, cs_g (k := 3) (i := 0) h rfl]
theorem C_checkNode {x : Int32} (h : tg_R A (cs_h ar A s) σ) : mj_wp (tb ar) 57 (mj_en (tb ar) 57 [.ref (A (0, 0)), .int x] σ) Q ↔ (if x < 0 ∨ ¬ x < cs_v s 0 0 1 then Q (.inr "java/lang/IndexOutOfBoundsException") σ else Q (.inl none) σ) := by
  rw [en_57]
  by_cases h1 : x < 0
  · simp only [r57_0, r57_1, r57_12, wo_nx, wo_ret, wo_ite, wo_call, bk_inl, mj_lda, mj_ldi, mj_sti, mj_sta, mj_b2, mj_br1, mj_br2, mj_brn, mj_ir, mj_rr, mj_nx, mj_gf, mj_fld, mj_k2, mj_rc, mj_cls, mj_dup, mj_inc, List.getElem?_cons_zero, List.getElem?_cons_succ, List.length_cons, List.length_nil, List.set_cons_succ, List.set_cons_zero, Nat.reduceAdd, Nat.reduceLT, if_true, if_false, mj_iif, decide_eq_true_eq, List.take_succ_cons, List.take_zero, List.reverse_cons, List.reverse_nil, List.nil_append, List.cons_append, List.drop_succ_cons, List.drop_zero, List.map_cons, List.map_nil, cat_i, cat_r, cat_n, Nat.reduceLeDiff, true_and, and_true, decide_true, Option.toList_some, Option.toList_none, and_self, Nat.le_refl, h1, mj_th, wo_thr, true_or]
  · by_cases h2 : x < cs_v s 0 0 1
    · simp only [r57_0, r57_1, r57_4, r57_5, r57_6, r57_9, r57_22, wo_nx, wo_ret, wo_ite, wo_call, bk_inl, mj_lda, mj_ldi, mj_sti, mj_sta, mj_b2, mj_br1, mj_br2, mj_brn, mj_ir, mj_rr, mj_nx, mj_gf, mj_fld, mj_k2, mj_rc, mj_cls, mj_dup, mj_inc, List.getElem?_cons_zero, List.getElem?_cons_succ, List.length_cons, List.length_nil, List.set_cons_succ, List.set_cons_zero, Nat.reduceAdd, Nat.reduceLT, if_true, if_false, mj_iif, decide_eq_true_eq, List.take_succ_cons, List.take_zero, List.reverse_cons, List.reverse_nil, List.nil_append, List.cons_append, List.drop_succ_cons, List.drop_zero, List.map_cons, List.map_nil, cat_i, cat_r, cat_n, Nat.reduceLeDiff, true_and, and_true, decide_true, Option.toList_some, Option.toList_none, and_self, Nat.le_refl, h1, h2, cs_g (k := 0) (i := 0) h rfl, mj_vr, false_or, not_true_eq_false]
    · simp only [r57_0, r57_1, r57_4, r57_5, r57_6, r57_9, r57_12, wo_nx, wo_ret, wo_ite, wo_call, bk_inl, mj_lda, mj_ldi, mj_sti, mj_sta, mj_b2, mj_br1, mj_br2, mj_brn, mj_ir, mj_rr, mj_nx, mj_gf, mj_fld, mj_k2, mj_rc, mj_cls, mj_dup, mj_inc, List.getElem?_cons_zero, List.getElem?_cons_succ, List.length_cons, List.length_nil, List.set_cons_succ, List.set_cons_zero, Nat.reduceAdd, Nat.reduceLT, if_true, if_false, mj_iif, decide_eq_true_eq, List.take_succ_cons, List.take_zero, List.reverse_cons, List.reverse_nil, List.nil_append, List.cons_append, List.drop_succ_cons, List.drop_zero, List.map_cons, List.map_nil, cat_i, cat_r, cat_n, Nat.reduceLeDiff, true_and, and_true, decide_true, Option.toList_some, Option.toList_none, and_self, Nat.le_refl, h1, h2, cs_g (k := 0) (i := 0) h rfl, mj_th, wo_thr, not_false_eq_true, or_true]
/-- a Lead ends -/
def cs_end (s : cs_S) (i : Nat) : cs_S := if cs_v s 20 i 6 = 0 then s else cs_u (cs_u (cs_u (cs_u (cs_u s 22 i (w_fl (cs_v s 22 i) 0 100)) 24 i (w_fl (cs_v s 24 i) 0 100)) 25 i (w_fl (cs_v s 25 i) 0 100)) 26 i (w_fl (cs_v s 26 i) 0 5)) 20 i (fun _ => 0)
theorem C_end (h : tg_R A (cs_h ar A s) σ) (hi : i < s.1) (hQ : ∀ τ, cs_n σ τ → tg_R A (cs_h ar A (cs_end s i)) τ → Q (.inl none) τ) : mj_wp (tb ar) 2 (mj_en (tb ar) 2 [.ref (A (20, i))] σ) Q := by
  have h20 := cs_g (k := 20) (i := i) h (if_pos hi)
  have h22 := cs_g (k := 22) (i := i) h (if_pos hi)
  have h24 := cs_g (k := 24) (i := i) h (if_pos hi)
  have h25 := cs_g (k := 25) (i := i) h (if_pos hi)
  have h26 := cs_g (k := 26) (i := i) h (if_pos hi)
  have n1 := tg_ne (t := (25, i)) (u := (24, i)) h (if_pos hi) (if_pos hi) (by simp)
  have n2 := tg_ne (t := (26, i)) (u := (24, i)) h (if_pos hi) (if_pos hi) (by simp)
  have n3 := tg_ne (t := (26, i)) (u := (25, i)) h (if_pos hi) (if_pos hi) (by simp)
  have n4 := tg_ne (t := (24, i)) (u := (22, i)) h (if_pos hi) (if_pos hi) (by simp)
  have n5 := tg_ne (t := (25, i)) (u := (22, i)) h (if_pos hi) (if_pos hi) (by simp)
  have n6 := tg_ne (t := (26, i)) (u := (22, i)) h (if_pos hi) (if_pos hi) (by simp)
  by_cases hr : cs_v s 20 i 6 = 0
  · rw [hr] at h20
    rw [e_end0 h20]
    have e1 : cs_end s i = s := if_pos hr
    exact hQ σ ⟨rfl, rfl⟩ (by rw [e1]; exact h)
  · rw [e_end n1 n2 n3 h20 h22 h24 h25 h26 n4 n5 n6 hr]
    refine hQ _ ⟨rfl, rfl⟩ ?_
    have e1 : cs_end s i = _ := if_neg hr
    rw [e1]
    exact cs_set (cs_set (cs_set (cs_set (cs_set h (if_pos hi) (if_pos hi)) (if_pos hi) (if_pos hi)) (if_pos hi) (if_pos hi)) (if_pos hi) (if_pos hi)) (if_pos hi) (if_pos hi)
end CC
