section MB
variable {ar : Nat → ClassId} {σ : mj_S} {Q : (Option Value ⊕ String) → mj_S → Prop}
theorem ne_cls {a b c c' : Nat} {fs fs' : List Value} (h : σ.2.2 a = some (.inr (c, fs))) (h' : σ.2.2 b = some (.inr (c', fs'))) (hc : c ≠ c') : a ≠ b := by
  rintro rfl
  rw [h] at h'
  exact hc (congrArg (fun z => match z with | some (.inr (d, _)) => d | _ => 0) h')
theorem ne_arr {a b c : Nat} {fs : List Value} {y} (h : σ.2.2 a = some (.inr (c, fs))) (h' : σ.2.2 b = some (.inl y)) : a ≠ b := by
  rintro rfl
  rw [h] at h'
  cases h'
theorem ne_len {a b : Nat} {y y'} (h : σ.2.2 a = some (.inl y)) (h' : σ.2.2 b = some (.inl y')) (hy : y.2.1 ≠ y'.2.1) : a ≠ b := by
  rintro rfl
  rw [h] at h'
  cases h'
  exact hy rfl
theorem ne_free {a : Nat} {e : va_E} (h : σ.2.2 a = some e) (h' : σ.2.2 σ.1 = none) : a ≠ σ.1 := by
  rintro e
  rw [e, h'] at h
  cases h
theorem up_new {n : Nat} {e e' : va_E} : mj_up (mj_add σ n e) σ.1 e' = mj_add σ n e' := by
  unfold mj_up mj_add
  dsimp only
  congr 2
  funext b
  by_cases h : b = σ.1
  · simp [h]
  · simp [h]
theorem en_17 {a b c d e f g : Value} : mj_en (tb ar) 17 [a, b, c, d, e, f, g] σ = (0, [some a, some b, some c, some d, some e, some f, some g, none, none], [], σ) := rfl
theorem en_19 {a b : Value} : mj_en (tb ar) 19 [a, b] σ = (0, [some a, some b], [], σ) := rfl
theorem en_22 {a : Value} : mj_en (tb ar) 22 [a] σ = (0, [some a], [], σ) := rfl
theorem mL_22 : mj_mL (tb ar) 22 = 1 := rfl
theorem mL_23 : mj_mL (tb ar) 23 = 7 := rfl
theorem m_init {x : Nat} : mj_wp (tb ar) 22 (mj_en (tb ar) 22 [.ref x] σ) Q ↔ Q (.inl none) σ := by
  rw [en_22]
  simp only [r22_0, r22_1, r22_4, wo_nx, wo_ret, wo_ite, wo_call, bk_inl, mj_lda, mj_ldi, mj_sti, mj_sta, mj_b2, mj_br1, mj_br2, mj_brn, mj_ir, mj_rr, mj_nx, mj_gf, mj_fld, mj_k2, mj_rc, mj_cls, mj_dup, mj_inc, List.getElem?_cons_zero, List.getElem?_cons_succ, List.length_cons, List.length_nil, List.set_cons_succ, List.set_cons_zero, Nat.reduceAdd, Nat.reduceLT, if_true, if_false, mj_iif, decide_eq_true_eq, List.take_succ_cons, List.take_zero, List.reverse_cons, List.reverse_nil, List.nil_append, List.cons_append, List.drop_succ_cons, List.drop_zero, List.map_cons, List.map_nil, cat_i, cat_r, cat_n, Nat.reduceLeDiff, true_and, and_true, decide_true, Option.toList_some, Option.toList_none, and_self, Nat.le_refl, mj_oi, mj_vr, Nat.zero_le]
/-- the queue that a message goes to -/
def s_q (qw qs : Nat) (a b : Int32) : Nat := if a = b then qs else qw
theorem s_pick {m qw qs : Nat} {y z w : Value} {a b c d e f : Int32} (hm : σ.2.2 m = some (.inr (2, [.ref qw, .ref qs, y, z, w]))) : mj_wp (tb ar) 17 (mj_en (tb ar) 17 [.ref m, .int a, .int b, .int c, .int d, .int e, .int f] σ) Q ↔ mj_wp (tb ar) 17 (18, [some (.ref m), some (.int a), some (.int b), some (.int c), some (.int d), some (.int e), some (.int f), some (.ref (s_q qw qs a b)), none], [], σ) Q := by
  rw [en_17]
  unfold s_q
  by_cases h : a = b
  · simp only [r17_0, r17_1, r17_2, r17_5, r17_6, r17_9, r17_12, r17_13, r17_16, wo_nx, wo_ret, wo_ite, wo_call, bk_inl, mj_lda, mj_ldi, mj_sti, mj_sta, mj_b2, mj_br1, mj_br2, mj_brn, mj_ir, mj_rr, mj_nx, mj_gf, mj_fld, mj_k2, mj_rc, mj_cls, mj_dup, mj_inc, List.getElem?_cons_zero, List.getElem?_cons_succ, List.length_cons, List.length_nil, List.set_cons_succ, List.set_cons_zero, Nat.reduceAdd, Nat.reduceLT, if_true, if_false, mj_iif, decide_eq_true_eq, List.take_succ_cons, List.take_zero, List.reverse_cons, List.reverse_nil, List.nil_append, List.cons_append, List.drop_succ_cons, List.drop_zero, List.map_cons, List.map_nil, cat_i, cat_r, cat_n, Nat.reduceLeDiff, true_and, and_true, decide_true, Option.toList_some, Option.toList_none, and_self, Nat.le_refl, hm, h, ne_eq, not_true_eq_false]
  · simp only [r17_0, r17_1, r17_2, r17_5, r17_6, r17_9, r17_12, r17_13, r17_16, wo_nx, wo_ret, wo_ite, wo_call, bk_inl, mj_lda, mj_ldi, mj_sti, mj_sta, mj_b2, mj_br1, mj_br2, mj_brn, mj_ir, mj_rr, mj_nx, mj_gf, mj_fld, mj_k2, mj_rc, mj_cls, mj_dup, mj_inc, List.getElem?_cons_zero, List.getElem?_cons_succ, List.length_cons, List.length_nil, List.set_cons_succ, List.set_cons_zero, Nat.reduceAdd, Nat.reduceLT, if_true, if_false, mj_iif, decide_eq_true_eq, List.take_succ_cons, List.take_zero, List.reverse_cons, List.reverse_nil, List.nil_append, List.cons_append, List.drop_succ_cons, List.drop_zero, List.map_cons, List.map_nil, cat_i, cat_r, cat_n, Nat.reduceLeDiff, true_and, and_true, decide_true, Option.toList_some, Option.toList_none, and_self, Nat.le_refl, hm, h, ne_eq, not_false_eq_true]
theorem s_full {m qw qs n : Nat} {y z u v : Value} {l a b c d e f : Int32} (hm : σ.2.2 m = some (.inr (2, [.ref qw, .ref qs, y, z, .int l]))) (hq : σ.2.2 (s_q qw qs a b) = some (.inr (6, [u, v, .int (nI n)]))) (hn : 300 ≤ n) (hn' : n < 2 ^ 31) : mj_wp (tb ar) 17 (mj_en (tb ar) 17 [.ref m, .int a, .int b, .int c, .int d, .int e, .int f] σ) Q ↔ Q (.inl (some .null)) (mj_up σ m (.inr (2, [.ref qw, .ref qs, y, z, .int (l + 1)]))) := by
  rw [s_pick hm]
  have c1 : ¬ nI n < (300 : Int32) := by rw [← nI_300]; exact nI_nlt hn hn'
  simp only [r17_18, r17_20, r17_23, r17_26, r17_29, r17_30, r17_31, r17_34, r17_35, r17_36, r17_39, r17_40, wo_nx, wo_ret, wo_ite, wo_call, bk_inl, mj_lda, mj_ldi, mj_sti, mj_sta, mj_b2, mj_br1, mj_br2, mj_brn, mj_ir, mj_rr, mj_nx, mj_gf, mj_fld, mj_k2, mj_rc, mj_cls, mj_dup, mj_inc, List.getElem?_cons_zero, List.getElem?_cons_succ, List.length_cons, List.length_nil, List.set_cons_succ, List.set_cons_zero, Nat.reduceAdd, Nat.reduceLT, if_true, if_false, mj_iif, decide_eq_true_eq, List.take_succ_cons, List.take_zero, List.reverse_cons, List.reverse_nil, List.nil_append, List.cons_append, List.drop_succ_cons, List.drop_zero, List.map_cons, List.map_nil, cat_i, cat_r, cat_n, Nat.reduceLeDiff, true_and, and_true, decide_true, Option.toList_some, Option.toList_none, and_self, Nat.le_refl, hm, hq, c1, mj_pf, mj_sf, mj_fit, Option.isSome_some]
theorem s_new {m qw qs r h n : Nat} {g : Nat → Option Nat} {y w : Value} {a b c d e f : Int32} (hqf : s_q qw qs a b ≠ σ.1) (hrf : r ≠ σ.1) (hm : σ.2.2 m = some (.inr (2, [.ref qw, .ref qs, y, .int (nI 0), w]))) (hq : σ.2.2 (s_q qw qs a b) = some (.inr (6, [.ref r, .int (nI h), .int (nI n)]))) (hr : σ.2.2 r = some (q_ar ar g)) (hh : h < 300) (hn : n < 300) : mj_wp (tb ar) 17 (mj_en (tb ar) 17 [.ref m, .int a, .int b, .int c, .int d, .int e, .int f] σ) Q ↔ Q (.inl (some (.ref σ.1))) (mj_up (mj_up (mj_add σ 7 (.inr (4, [.int a, .int b, .int c, .int d, .int e, .int f, .null]))) r (q_ar ar (va_up g ((h + n) % 300) (some σ.1)))) (s_q qw qs a b) (.inr (6, [.ref r, .int (nI h), .int (nI (n + 1))]))) := by
  rw [s_pick hm]
  have c1 : nI n < (300 : Int32) := by rw [← nI_300]; exact nI_lt hn (by decide)
  have c2 : nI 0 ≤ (0 : Int32) := by decide
  have e1 : (mj_add σ 7 (.inr (4, [.int 0, .int 0, .int 0, .int 0, .int 0, .int 0, .null]))).2.2 σ.1 = some (.inr (4, [.int 0, .int 0, .int 0, .int 0, .int 0, .int 0, .null])) := add_eq
  have q1 : ∀ e, (mj_add σ 7 e).2.2 (s_q qw qs a b) = some (.inr (6, [.ref r, .int (nI h), .int (nI n)])) := fun e => by rw [add_ne hqf]; exact hq
  have r1 : ∀ e, (mj_add σ 7 e).2.2 r = some (q_ar ar g) := fun e => by rw [add_ne hrf]; exact hr
  have h1 : ∀ Q : (Option Value ⊕ String) → mj_S → Prop, _ := fun Q => m_set (ar := ar) (Q := Q) (a := a) (b := b) (c := c) (d := d) (e := e) (f := f) e1
  have h2 : ∀ Q : (Option Value ⊕ String) → mj_S → Prop, _ := fun Q => q_add (ar := ar) (Q := Q) (ne_arr hq hr) (q1 (.inr (4, [.int a, .int b, .int c, .int d, .int e, .int f, .null]))) (r1 _) hh hn add_eq
  simp only [r17_18, r17_20, r17_23, r17_26, r17_41, r17_42, r17_44, r17_45, r17_48, r17_72, r17_74, r17_77, r17_80, r17_81, r17_84, r17_86, r17_88, r17_89, r17_90, r17_91, r17_93, r17_95, r17_97, wo_nx, wo_ret, wo_ite, wo_call, bk_inl, mj_lda, mj_ldi, mj_sti, mj_sta, mj_b2, mj_br1, mj_br2, mj_brn, mj_ir, mj_rr, mj_nx, mj_gf, mj_fld, mj_k2, mj_rc, mj_cls, mj_dup, mj_inc, List.getElem?_cons_zero, List.getElem?_cons_succ, List.length_cons, List.length_nil, List.set_cons_succ, List.set_cons_zero, Nat.reduceAdd, Nat.reduceLT, if_true, if_false, mj_iif, decide_eq_true_eq, List.take_succ_cons, List.take_zero, List.reverse_cons, List.reverse_nil, List.nil_append, List.cons_append, List.drop_succ_cons, List.drop_zero, List.map_cons, List.map_nil, cat_i, cat_r, cat_n, Nat.reduceLeDiff, true_and, and_true, decide_true, Option.toList_some, Option.toList_none, and_self, Nat.le_refl, hm, hq, c1, c2, mL_22, mL_23, m_init, e1, h1, up_new]
  simp only [r17_100, r17_102, r17_104, r17_107, r17_109, wo_nx, wo_ret, wo_ite, wo_call, bk_inl, mj_lda, mj_ldi, mj_sti, mj_sta, mj_b2, mj_br1, mj_br2, mj_brn, mj_ir, mj_rr, mj_nx, mj_gf, mj_fld, mj_k2, mj_rc, mj_cls, mj_dup, mj_inc, List.getElem?_cons_zero, List.getElem?_cons_succ, List.length_cons, List.length_nil, List.set_cons_succ, List.set_cons_zero, Nat.reduceAdd, Nat.reduceLT, if_true, if_false, mj_iif, decide_eq_true_eq, List.take_succ_cons, List.take_zero, List.reverse_cons, List.reverse_nil, List.nil_append, List.cons_append, List.drop_succ_cons, List.drop_zero, List.map_cons, List.map_nil, cat_i, cat_r, cat_n, Nat.reduceLeDiff, true_and, and_true, decide_true, Option.toList_some, Option.toList_none, and_self, Nat.le_refl, q1, mL_29, h2]
theorem s_used {m qw qs un r h n u x : Nat} {g gu : Nat → Option Nat} {w t v0 v1 v2 v3 v4 v5 : Value} {a b c d e f : Int32} (hm : σ.2.2 m = some (.inr (2, [.ref qw, .ref qs, .ref un, .int (nI (u + 1)), w]))) (hu : σ.2.2 un = some (.inl (ar 6, 601, .inr (.inr (.inr (.inr gu)))))) (hu6 : u < 601) (hxu : gu u = some x) (hx : σ.2.2 x = some (.inr (4, [v0, v1, v2, v3, v4, v5, t]))) (hq : σ.2.2 (s_q qw qs a b) = some (.inr (6, [.ref r, .int (nI h), .int (nI n)]))) (hr : σ.2.2 r = some (q_ar ar g)) (hh : h < 300) (hn : n < 300) : mj_wp (tb ar) 17 (mj_en (tb ar) 17 [.ref m, .int a, .int b, .int c, .int d, .int e, .int f] σ) Q ↔ Q (.inl (some (.ref x))) (mj_up (mj_up (mj_up (mj_up σ m (.inr (2, [.ref qw, .ref qs, .ref un, .int (nI u), w]))) x (.inr (4, [.int a, .int b, .int c, .int d, .int e, .int f, t]))) r (q_ar ar (va_up g ((h + n) % 300) (some x)))) (s_q qw qs a b) (.inr (6, [.ref r, .int (nI h), .int (nI (n + 1))]))) := by
  rw [s_pick hm]
  have c1 : nI n < (300 : Int32) := by rw [← nI_300]; exact nI_lt hn (by decide)
  have c2 : ¬ nI (u + 1) ≤ (0 : Int32) := nI_nle (by omega) (by omega)
  have hix : mj_ix (nI u) 601 = true := ix_of hu6 (by decide)
  have hcl : (nI u).toNatClampNeg = u := nI_clamp (by omega)
  have u1 : ∀ e, (mj_up σ m e).2.2 un = some (.inl (ar 6, 601, .inr (.inr (.inr (.inr gu))))) := fun e => by rw [up_ne (Ne.symm (ne_arr hm hu))]; exact hu
  have x1 : ∀ e, (mj_up σ m e).2.2 x = some (.inr (4, [v0, v1, v2, v3, v4, v5, t])) := fun e => by rw [up_ne (ne_cls hx hm (by decide))]; exact hx
  have q1 : ∀ e, (mj_up σ m e).2.2 (s_q qw qs a b) = some (.inr (6, [.ref r, .int (nI h), .int (nI n)])) := fun e => by rw [up_ne (ne_cls hq hm (by decide))]; exact hq
  have q2 : ∀ e e', (mj_up (mj_up σ m e) x e').2.2 (s_q qw qs a b) = some (.inr (6, [.ref r, .int (nI h), .int (nI n)])) := fun e e' => by rw [up_ne (ne_cls hq hx (by decide))]; exact q1 e
  have r2 : ∀ e e', (mj_up (mj_up σ m e) x e').2.2 r = some (q_ar ar g) := fun e e' => by rw [up_ne (Ne.symm (ne_arr hx hr)), up_ne (Ne.symm (ne_arr hm hr))]; exact hr
  have h1 : ∀ (s : va_E) (Q : (Option Value ⊕ String) → mj_S → Prop), _ := fun s Q => m_set (ar := ar) (Q := Q) (a := a) (b := b) (c := c) (d := d) (e := e) (f := f) (x1 s)
  have h2 : ∀ (s : va_E) (Q : (Option Value ⊕ String) → mj_S → Prop), _ := fun s Q => q_add (ar := ar) (Q := Q) (ne_arr hq hr) (q2 s (.inr (4, [.int a, .int b, .int c, .int d, .int e, .int f, t]))) (r2 s _) hh hn up_eq
  simp only [r17_18, r17_20, r17_23, r17_26, r17_41, r17_42, r17_44, r17_45, r17_48, r17_51, r17_52, r17_53, r17_56, r17_57, r17_58, r17_61, r17_62, r17_65, r17_66, r17_69, r17_70, wo_nx, wo_ret, wo_ite, wo_call, bk_inl, mj_lda, mj_ldi, mj_sti, mj_sta, mj_b2, mj_br1, mj_br2, mj_brn, mj_ir, mj_rr, mj_nx, mj_gf, mj_fld, mj_k2, mj_rc, mj_cls, mj_dup, mj_inc, List.getElem?_cons_zero, List.getElem?_cons_succ, List.length_cons, List.length_nil, List.set_cons_succ, List.set_cons_zero, Nat.reduceAdd, Nat.reduceLT, if_true, if_false, mj_iif, decide_eq_true_eq, List.take_succ_cons, List.take_zero, List.reverse_cons, List.reverse_nil, List.nil_append, List.cons_append, List.drop_succ_cons, List.drop_zero, List.map_cons, List.map_nil, cat_i, cat_r, cat_n, Nat.reduceLeDiff, true_and, and_true, decide_true, Option.toList_some, Option.toList_none, and_self, Nat.le_refl, hm, hq, c1, c2, mj_pf, mj_sf, mj_fit, Option.isSome_some, up_eq, nI_pred, u1, mj_aald, kr_6, hix, hcl, hxu, va_rf]
  simp only [r17_72, r17_74, r17_86, r17_88, r17_89, r17_90, r17_91, r17_93, r17_95, r17_97, wo_nx, wo_ret, wo_ite, wo_call, bk_inl, mj_lda, mj_ldi, mj_sti, mj_sta, mj_b2, mj_br1, mj_br2, mj_brn, mj_ir, mj_rr, mj_nx, mj_gf, mj_fld, mj_k2, mj_rc, mj_cls, mj_dup, mj_inc, List.getElem?_cons_zero, List.getElem?_cons_succ, List.length_cons, List.length_nil, List.set_cons_succ, List.set_cons_zero, Nat.reduceAdd, Nat.reduceLT, if_true, if_false, mj_iif, decide_eq_true_eq, List.take_succ_cons, List.take_zero, List.reverse_cons, List.reverse_nil, List.nil_append, List.cons_append, List.drop_succ_cons, List.drop_zero, List.map_cons, List.map_nil, cat_i, cat_r, cat_n, Nat.reduceLeDiff, true_and, and_true, decide_true, Option.toList_some, Option.toList_none, and_self, Nat.le_refl, mL_23, x1, h1]
  simp only [r17_100, r17_102, r17_104, r17_107, r17_109, wo_nx, wo_ret, wo_ite, wo_call, bk_inl, mj_lda, mj_ldi, mj_sti, mj_sta, mj_b2, mj_br1, mj_br2, mj_brn, mj_ir, mj_rr, mj_nx, mj_gf, mj_fld, mj_k2, mj_rc, mj_cls, mj_dup, mj_inc, List.getElem?_cons_zero, List.getElem?_cons_succ, List.length_cons, List.length_nil, List.set_cons_succ, List.set_cons_zero, Nat.reduceAdd, Nat.reduceLT, if_true, if_false, mj_iif, decide_eq_true_eq, List.take_succ_cons, List.take_zero, List.reverse_cons, List.reverse_nil, List.nil_append, List.cons_append, List.drop_succ_cons, List.drop_zero, List.map_cons, List.map_nil, cat_i, cat_r, cat_n, Nat.reduceLeDiff, true_and, and_true, decide_true, Option.toList_some, Option.toList_none, and_self, Nat.le_refl, q2, mL_29, h2]
theorem s_release {m un u x : Nat} {gu : Nat → Option Nat} {y z w : Value} {fs : List Value} (hm : σ.2.2 m = some (.inr (2, [y, z, .ref un, .int (nI u), w]))) (hu : σ.2.2 un = some (.inl (ar 6, 601, .inr (.inr (.inr (.inr gu)))))) (hu6 : u < 601) (hx : σ.2.2 x = some (.inr (4, fs))) : mj_wp (tb ar) 19 (mj_en (tb ar) 19 [.ref m, .ref x] σ) Q ↔ Q (.inl none) (mj_up (mj_up σ un (.inl (ar 6, 601, .inr (.inr (.inr (.inr (va_up gu u (some x)))))))) m (.inr (2, [y, z, .ref un, .int (nI (u + 1)), w]))) := by
  rw [en_19]
  have hka : mj_ka (tb ar) (ar 6) = true := by unfold mj_ka; rw [kr_6]; simp
  have c1 : ¬ Int32.ofNat 601 ≤ nI u := nI_ge (a := u) (b := 601) hu6 (by decide)
  have hix : mj_ix (nI u) 601 = true := ix_of hu6 (by decide)
  have hcl : (nI u).toNatClampNeg = u := nI_clamp (by omega)
  have m1 : ∀ e, (mj_up σ un e).2.2 m = some (.inr (2, [y, z, .ref un, .int (nI u), w])) := fun e => by rw [up_ne (ne_arr hm hu)]; exact hm
  simp only [r19_0, r19_1, r19_4, r19_5, r19_8, r19_9, r19_12, r19_13, r19_16, r19_17, r19_20, r19_21, r19_24, r19_25, r19_26, r19_27, r19_28, r19_31, r19_32, r19_33, r19_36, wo_nx, wo_ret, wo_ite, wo_call, bk_inl, mj_lda, mj_ldi, mj_sti, mj_sta, mj_b2, mj_br1, mj_br2, mj_brn, mj_ir, mj_rr, mj_nx, mj_gf, mj_fld, mj_k2, mj_rc, mj_cls, mj_dup, mj_inc, List.getElem?_cons_zero, List.getElem?_cons_succ, List.length_cons, List.length_nil, List.set_cons_succ, List.set_cons_zero, Nat.reduceAdd, Nat.reduceLT, if_true, if_false, mj_iif, decide_eq_true_eq, List.take_succ_cons, List.take_zero, List.reverse_cons, List.reverse_nil, List.nil_append, List.cons_append, List.drop_succ_cons, List.drop_zero, List.map_cons, List.map_nil, cat_i, cat_r, cat_n, Nat.reduceLeDiff, true_and, and_true, decide_true, Option.toList_some, Option.toList_none, and_self, Nat.le_refl, hm, hu, mj_alen, hka, c1, mj_aast, hx, ar_6, ak_4, hix, hcl, m1, mj_pf, mj_sf, mj_fit, Option.isSome_some, nI_1, mj_vr]
end MB
