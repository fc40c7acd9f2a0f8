section CD
variable {ar : Nat → ClassId} {A : tg_T → Nat} {s : cs_S} {σ : mj_S} {e e0 : va_E} {w : Nat → Int32} {k i : Nat} {Q : (Option Value ⊕ String) → mj_S → Prop}
/-- the counts of mains and nodes -/
def cs_B (s : cs_S) : Prop := 2 ≤ s.1 ∧ s.1 ≤ 5 ∧ cs_v s 0 0 0 = nI s.1 ∧ cs_v s 0 0 1 = nI (2 * s.1 - 1)
theorem cs_1_at {N k : Nat} (h : i < N) : cs_1 N A k i = some (A (k, i)) := if_pos h
theorem w_set_at {x : Int32} : (upd w k x) k = x := if_pos rfl
theorem w_set_ne {x : Int32} {j : Nat} (h : j ≠ k) : (upd w k x) j = w j := if_neg h
def cs_crash (s : cs_S) (i : Nat) (b : Int32) : cs_S := if i < s.1 then cs_end (cs_u s 9 i (upd (cs_v s 9 i) 1 b)) i else cs_u s 9 i (upd (cs_v s 9 i) 1 b)
theorem C_crash {b : Int32} (h : tg_R A (cs_h ar A s) σ) (hB : cs_B s) (hi : i < 2 * s.1 - 1) (hb : b = 0 ∨ b = 1) (hQ : ∀ τ, cs_n σ τ → tg_R A (cs_h ar A (cs_crash s i b)) τ → Q (.inl (some (.int (if cs_v s 9 i 1 = 0 then 0 else 1)))) τ) : mj_wp (tb ar) 49 (mj_en (tb ar) 49 [.ref (A (0, 0)), .int (nI i), .int b] σ) Q := by
  rw [en_49]
  obtain ⟨b1, b2, b3, b4⟩ := hB
  have g0 := cs_g (k := 0) (i := 0) h rfl
  have g1 := cs_g (k := 1) (i := 0) h rfl
  have g2 := cs_g (k := 2) (i := 0) h rfl
  have g9 := cs_g (k := 9) (i := i) h (if_pos hi)
  have c1 : (nI i < 0 ∨ ¬ nI i < cs_v s 0 0 1) ↔ False := by
    rw [b4]
    exact ⟨fun q => q.elim (fun q => nI_pos (by omega) q) (fun q => q (nI_lt hi (by omega))), fun q => q.elim⟩
  have hix : mj_ix (nI i) (2 * s.1 - 1) = true := ix_of hi (by omega)
  have hcl : (nI i).toNatClampNeg = i := nI_clamp (by omega)
  have k0 : (2 * s.1 - 1) < 2 ^ 31 := by omega
  have hs := cs_set (w := upd (cs_v s 9 i) 1 b) (e0 := _) h (if_pos hi) (k := 9) (i := i) (if_pos hi)
  rw [w_set_at, w_set_ne (by decide), w_set_ne (by decide)] at hs
  have p0 : ∀ e, (mj_up σ (A (9, i)) e).2.2 (A (0, 0)) = σ.2.2 (A (0, 0)) := fun e => up_ne (tg_ne (t := (0, 0)) (u := (9, i)) h rfl (if_pos hi) (by simp))
  have p2 : ∀ e, (mj_up σ (A (9, i)) e).2.2 (A (2, 0)) = σ.2.2 (A (2, 0)) := fun e => up_ne (tg_ne (t := (2, 0)) (u := (9, i)) h rfl (if_pos hi) (by simp))
  have hfin : ∀ was : Int32, was = (if cs_v s 9 i 1 = 0 then 0 else 1) → mj_wp (tb ar) 49 (23, [some (.ref (A (0, 0))), some (.int (nI i)), some (.int b), some (.int was)], [], σ) Q := by
    intro was hw
    by_cases hm : i < s.1
    · have c2 : ¬ nI s.1 ≤ nI i := nI_ge hm (by omega)
      have g13 := cs_g (k := 13) (i := i) h (if_pos hm)
      have g20 := cs_g (k := 20) (i := i) h (if_pos hm)
      have p13 : ∀ e, (mj_up σ (A (9, i)) e).2.2 (A (13, i)) = σ.2.2 (A (13, i)) := fun e => up_ne (tg_ne (t := (13, i)) (u := (9, i)) h (if_pos hm) (if_pos hi) (by simp))
      have p20 : ∀ e, (mj_up σ (A (9, i)) e).2.2 (A (20, i)) = σ.2.2 (A (20, i)) := fun e => up_ne (tg_ne (t := (20, i)) (u := (9, i)) h (if_pos hm) (if_pos hi) (by simp))
      have hix2 : mj_ix (nI i) s.1 = true := ix_of hm (by omega)
      simp only [r49_23, r49_24, r49_27, r49_28, r49_29, r49_30, r49_33, r49_34, r49_35, r49_38, r49_41, r49_42, r49_45, r49_46, r49_47, r49_50, wo_nx, wo_ret, wo_ite, wo_call, bk_inl, mj_lda, mj_ldi, mj_sti, mj_sta, mj_b2, mj_br1, mj_br2, mj_brn, mj_ir, mj_rr, mj_nx, mj_gf, mj_fld, mj_k2, mj_rc, mj_cls, mj_dup, mj_inc, List.getElem?_cons_zero, List.getElem?_cons_succ, List.length_cons, List.length_nil, List.set_cons_succ, List.set_cons_zero, Nat.reduceAdd, Nat.reduceLT, if_true, if_false, mj_iif, decide_eq_true_eq, List.take_succ_cons, List.take_zero, List.reverse_cons, List.reverse_nil, List.nil_append, List.cons_append, List.drop_succ_cons, List.drop_zero, List.map_cons, List.map_nil, cat_i, cat_r, cat_n, Nat.reduceLeDiff, true_and, and_true, decide_true, Option.toList_some, Option.toList_none, and_self, Nat.le_refl, g0, g1, g2, g9, g13, g20, p0, p2, p13, p20, b3, c2, cs_rf, mj_aald, kr_7, kr_5, hix, hix2, hcl, cs_1_at hi, cs_1_at hm, va_rf, mj_pf, mj_sf, mj_fit, hb, Option.isSome_some, mL_2]
      refine C_end hs hm (fun τ hn hτ => ?_)
      simp only [r49_53, r49_54, wo_nx, wo_ret, wo_ite, wo_call, bk_inl, mj_lda, mj_ldi, mj_sti, mj_sta, mj_b2, mj_br1, mj_br2, mj_brn, mj_ir, mj_rr, mj_nx, mj_gf, mj_fld, mj_k2, mj_rc, mj_cls, mj_dup, mj_inc, List.getElem?_cons_zero, List.getElem?_cons_succ, List.length_cons, List.length_nil, List.set_cons_succ, List.set_cons_zero, Nat.reduceAdd, Nat.reduceLT, if_true, if_false, mj_iif, decide_eq_true_eq, List.take_succ_cons, List.take_zero, List.reverse_cons, List.reverse_nil, List.nil_append, List.cons_append, List.drop_succ_cons, List.drop_zero, List.map_cons, List.map_nil, cat_i, cat_r, cat_n, Nat.reduceLeDiff, true_and, and_true, decide_true, Option.toList_some, Option.toList_none, and_self, Nat.le_refl, bk_inl]
      rw [hw]
      exact hQ τ hn (by rw [cs_crash, if_pos hm]; exact hτ)
    · have c2 : nI s.1 ≤ nI i := nI_le (by omega) (by omega)
      simp only [r49_23, r49_24, r49_27, r49_28, r49_29, r49_30, r49_33, r49_34, r49_35, r49_38, r49_53, r49_54, wo_nx, wo_ret, wo_ite, wo_call, bk_inl, mj_lda, mj_ldi, mj_sti, mj_sta, mj_b2, mj_br1, mj_br2, mj_brn, mj_ir, mj_rr, mj_nx, mj_gf, mj_fld, mj_k2, mj_rc, mj_cls, mj_dup, mj_inc, List.getElem?_cons_zero, List.getElem?_cons_succ, List.length_cons, List.length_nil, List.set_cons_succ, List.set_cons_zero, Nat.reduceAdd, Nat.reduceLT, if_true, if_false, mj_iif, decide_eq_true_eq, List.take_succ_cons, List.take_zero, List.reverse_cons, List.reverse_nil, List.nil_append, List.cons_append, List.drop_succ_cons, List.drop_zero, List.map_cons, List.map_nil, cat_i, cat_r, cat_n, Nat.reduceLeDiff, true_and, and_true, decide_true, Option.toList_some, Option.toList_none, and_self, Nat.le_refl, g0, g1, g2, g9, p0, p2, b3, c2, cs_rf, mj_aald, kr_7, kr_5, hix, hcl, cs_1_at hi, va_rf, mj_pf, mj_sf, mj_fit, hb, Option.isSome_some]
      rw [hw]
      exact hQ _ ⟨rfl, rfl⟩ (by rw [cs_crash, if_neg hm]; exact hs)
  by_cases hw : cs_v s 9 i 1 = 0
  · simp only [r49_0, r49_1, r49_2, wo_nx, wo_ret, wo_ite, wo_call, bk_inl, mj_lda, mj_ldi, mj_sti, mj_sta, mj_b2, mj_br1, mj_br2, mj_brn, mj_ir, mj_rr, mj_nx, mj_gf, mj_fld, mj_k2, mj_rc, mj_cls, mj_dup, mj_inc, List.getElem?_cons_zero, List.getElem?_cons_succ, List.length_cons, List.length_nil, List.set_cons_succ, List.set_cons_zero, Nat.reduceAdd, Nat.reduceLT, if_true, if_false, mj_iif, decide_eq_true_eq, List.take_succ_cons, List.take_zero, List.reverse_cons, List.reverse_nil, List.nil_append, List.cons_append, List.drop_succ_cons, List.drop_zero, List.map_cons, List.map_nil, cat_i, cat_r, cat_n, Nat.reduceLeDiff, true_and, and_true, decide_true, Option.toList_some, Option.toList_none, and_self, Nat.le_refl, g0, mL_57, C_checkNode h, c1]
    simp only [r49_5, r49_6, r49_9, r49_10, r49_11, r49_14, r49_17, r49_18, r49_21, r49_22, wo_nx, wo_ret, wo_ite, wo_call, bk_inl, mj_lda, mj_ldi, mj_sti, mj_sta, mj_b2, mj_br1, mj_br2, mj_brn, mj_ir, mj_rr, mj_nx, mj_gf, mj_fld, mj_k2, mj_rc, mj_cls, mj_dup, mj_inc, List.getElem?_cons_zero, List.getElem?_cons_succ, List.length_cons, List.length_nil, List.set_cons_succ, List.set_cons_zero, Nat.reduceAdd, Nat.reduceLT, if_true, if_false, mj_iif, decide_eq_true_eq, List.take_succ_cons, List.take_zero, List.reverse_cons, List.reverse_nil, List.nil_append, List.cons_append, List.drop_succ_cons, List.drop_zero, List.map_cons, List.map_nil, cat_i, cat_r, cat_n, Nat.reduceLeDiff, true_and, and_true, decide_true, Option.toList_some, Option.toList_none, and_self, Nat.le_refl, g0, g1, g9, cs_rf, mj_aald, kr_7, hix, hcl, cs_1_at hi, va_rf, hw]
    exact hfin 0 (by rw [if_pos hw])
  · simp only [r49_0, r49_1, r49_2, wo_nx, wo_ret, wo_ite, wo_call, bk_inl, mj_lda, mj_ldi, mj_sti, mj_sta, mj_b2, mj_br1, mj_br2, mj_brn, mj_ir, mj_rr, mj_nx, mj_gf, mj_fld, mj_k2, mj_rc, mj_cls, mj_dup, mj_inc, List.getElem?_cons_zero, List.getElem?_cons_succ, List.length_cons, List.length_nil, List.set_cons_succ, List.set_cons_zero, Nat.reduceAdd, Nat.reduceLT, if_true, if_false, mj_iif, decide_eq_true_eq, List.take_succ_cons, List.take_zero, List.reverse_cons, List.reverse_nil, List.nil_append, List.cons_append, List.drop_succ_cons, List.drop_zero, List.map_cons, List.map_nil, cat_i, cat_r, cat_n, Nat.reduceLeDiff, true_and, and_true, decide_true, Option.toList_some, Option.toList_none, and_self, Nat.le_refl, g0, mL_57, C_checkNode h, c1]
    simp only [r49_5, r49_6, r49_9, r49_10, r49_11, r49_14, r49_17, r49_18, r49_21, r49_22, wo_nx, wo_ret, wo_ite, wo_call, bk_inl, mj_lda, mj_ldi, mj_sti, mj_sta, mj_b2, mj_br1, mj_br2, mj_brn, mj_ir, mj_rr, mj_nx, mj_gf, mj_fld, mj_k2, mj_rc, mj_cls, mj_dup, mj_inc, List.getElem?_cons_zero, List.getElem?_cons_succ, List.length_cons, List.length_nil, List.set_cons_succ, List.set_cons_zero, Nat.reduceAdd, Nat.reduceLT, if_true, if_false, mj_iif, decide_eq_true_eq, List.take_succ_cons, List.take_zero, List.reverse_cons, List.reverse_nil, List.nil_append, List.cons_append, List.drop_succ_cons, List.drop_zero, List.map_cons, List.map_nil, cat_i, cat_r, cat_n, Nat.reduceLeDiff, true_and, and_true, decide_true, Option.toList_some, Option.toList_none, and_self, Nat.le_refl, g0, g1, g9, cs_rf, mj_aald, kr_7, hix, hcl, cs_1_at hi, va_rf, hw]
    exact hfin 1 (by rw [if_neg hw])
theorem C_crash0 {x : Int32} {b : Value} (h : tg_R A (cs_h ar A s) σ) (hx : x < 0 ∨ ¬ x < cs_v s 0 0 1) : mj_wp (tb ar) 49 (mj_en (tb ar) 49 [.ref (A (0, 0)), .int x, b] σ) Q ↔ Q (.inr "java/lang/IndexOutOfBoundsException") σ := by
  rw [en_49]
  have g0 := cs_g (k := 0) (i := 0) h rfl
  simp only [r49_0, r49_1, r49_2, wo_nx, wo_ret, wo_ite, wo_call, bk_inl, mj_lda, mj_ldi, mj_sti, mj_sta, mj_b2, mj_br1, mj_br2, mj_brn, mj_ir, mj_rr, mj_nx, mj_gf, mj_fld, mj_k2, mj_rc, mj_cls, mj_dup, mj_inc, List.getElem?_cons_zero, List.getElem?_cons_succ, List.length_cons, List.length_nil, List.set_cons_succ, List.set_cons_zero, Nat.reduceAdd, Nat.reduceLT, if_true, if_false, mj_iif, decide_eq_true_eq, List.take_succ_cons, List.take_zero, List.reverse_cons, List.reverse_nil, List.nil_append, List.cons_append, List.drop_succ_cons, List.drop_zero, List.map_cons, List.map_nil, cat_i, cat_r, cat_n, Nat.reduceLeDiff, true_and, and_true, decide_true, Option.toList_some, Option.toList_none, and_self, Nat.le_refl, g0, mL_57, C_checkNode h, hx, bk_inr, kd_57]
end CD
