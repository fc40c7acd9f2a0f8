section QU
variable {ar : Nat → ClassId} {σ : mj_S} {Q : (Option Value ⊕ String) → mj_S → Prop}
theorem mL_27 : mj_mL (tb ar) 27 = 3 := rfl
theorem mL_28 : mj_mL (tb ar) 28 = 2 := rfl
theorem en_27 {a b : Value} : mj_en (tb ar) 27 [a, b] σ = (0, [some a, some b, none], [], σ) := rfl
theorem en_28 {a b : Value} : mj_en (tb ar) 28 [a, b] σ = (0, [some a, some b], [], σ) := rfl
theorem cat_i {x : Int32} : (Value.int x).category = 1 := rfl
theorem cat_r {x : Nat} : (Value.ref x).category = 1 := rfl
theorem cat_n : Value.null.category = 1 := rfl
theorem nI_300 : nI 300 = 300 := rfl
theorem q_place {q r h i : Nat} {z : Value} (hq : σ.2.2 q = some (.inr (6, [.ref r, .int (nI h), z]))) (hh : h < 300) (hi : i ≤ 300) : mj_wp (tb ar) 27 (mj_en (tb ar) 27 [.ref q, .int (nI i)] σ) Q ↔ Q (.inl (some (.int (nI ((h + i) % 300))))) σ := by
  rw [en_27]
  simp only [r27_0, r27_1, r27_4, r27_5, r27_6, r27_7, r27_8, r27_11, r27_22, r27_23, r27_14, r27_15, r27_18, r27_19, wo_nx, wo_ret, wo_ite, mj_lda, mj_ldi, mj_sti, mj_b2, mj_br2, mj_ir, mj_nx, mj_gf, mj_fld, hq, List.getElem?_cons_zero, List.getElem?_cons_succ, List.length_cons, List.length_nil, List.set_cons_succ, List.set_cons_zero, Nat.reduceAdd, Nat.reduceLT, if_true, mj_iif, decide_eq_true_eq, nI_add]
  by_cases hc : h + i < 300
  · rw [if_pos (by rw [← nI_300]; exact nI_lt hc (by decide)), Nat.mod_eq_of_lt hc]
  · rw [if_neg (by rw [← nI_300]; exact nI_nlt (by omega) (by omega)), ← nI_300, pk_sub (by omega)]
    have e : (h + i) % 300 = h + i - 300 := by omega
    rw [e]
theorem q_at {q r h n i : Nat} {g : Nat → Option Nat} (hq : σ.2.2 q = some (.inr (6, [.ref r, .int (nI h), .int (nI n)]))) (hr : σ.2.2 r = some (.inl (ar 6, 300, .inr (.inr (.inr (.inr g)))))) (hh : h < 300) (hn : n ≤ 300) (hi : i < n) : mj_wp (tb ar) 28 (mj_en (tb ar) 28 [.ref q, .int (nI i)] σ) Q ↔ Q (.inl (some (va_rf (g ((h + i) % 300))))) σ := by
  rw [en_28]
  have h1 : ¬ nI i < 0 := nI_pos (by omega)
  have h2 : ¬ nI n ≤ nI i := nI_ge hi (by omega)
  have hk : mj_kr (tb ar) (ar 6) = true := by
    unfold mj_kr
    rw [List.any_eq_true]
    exact ⟨4, (show 4 ∈ ([3, 4, 5, 7] : List Nat) from by decide), by simp [mj_ar, tb]⟩
  have hx : mj_ix (nI ((h + i) % 300)) 300 = true := by
    have h3 : (h + i) % 300 < 300 := Nat.mod_lt _ (by decide)
    unfold mj_ix
    rw [nI_clamp (by omega)]
    simp [nI_pos (show (h + i) % 300 < 2 ^ 31 by omega)]
    omega
  have hcl : (nI ((h + i) % 300)).toNatClampNeg = (h + i) % 300 := nI_clamp (by omega)
  simp only [r28_0, r28_1, r28_4, r28_5, r28_6, r28_9, r28_12, r28_13, r28_16, r28_17, r28_18, r28_21, r28_22, r28_25, r28_26, wo_nx, wo_ret, wo_ite, wo_call, bk_inl, mj_lda, mj_ldi, mj_sti, mj_b2, mj_br1, mj_br2, mj_ir, mj_rr, mj_nx, mj_gf, mj_fld, mj_k2, mj_rc, mj_cls, hq, hr, List.getElem?_cons_zero, List.getElem?_cons_succ, List.length_cons, List.length_nil, List.set_cons_succ, List.set_cons_zero, Nat.reduceAdd, Nat.reduceLT, if_true, if_false, mj_iif, decide_eq_true_eq, h1, h2, List.take_succ_cons, List.take_zero, List.reverse_cons, List.reverse_nil, List.nil_append, List.cons_append, List.drop_succ_cons, List.drop_zero, List.map_cons, List.map_nil, cat_i, cat_r, Nat.reduceLeDiff, true_and, and_true, decide_true, mL_27, q_place hq hh (Nat.le_trans (Nat.le_of_lt hi) hn), Option.toList_some, mj_aald, hk, hx, hcl, and_self]
  cases g ((h + i) % 300) with
  | none => simp only [va_rf, wo_ret]
  | some x => simp only [va_rf, wo_ret]
/-- the ring's arrays: of messages -/
abbrev q_ar (ar : Nat → ClassId) (g : Nat → Option Nat) : va_E := .inl (ar 6, 300, .inr (.inr (.inr (.inr g))))
theorem up_eq {σ : mj_S} {a : Nat} {e : va_E} : (mj_up σ a e).2.2 a = some e := by simp [mj_up]
theorem up_ne {σ : mj_S} {a b : Nat} {e : va_E} (h : b ≠ a) : (mj_up σ a e).2.2 b = σ.2.2 b := by simp [mj_up, h]
theorem up_up {σ : mj_S} {a : Nat} {e e' : va_E} : mj_up (mj_up σ a e) a e' = mj_up σ a e' := by
  unfold mj_up
  dsimp only
  congr 2
  funext b
  by_cases h : b = a
  · simp [h]
  · simp [h]
/-- take's loop: from place k down everything moves up by one -/
def q_sh (h : Nat) : Nat → (Nat → Option Nat) → (Nat → Option Nat)
  | 0, g => g
  | k + 1, g => q_sh h k (va_up g ((h + (k + 1)) % 300) (g ((h + k) % 300)))
theorem kr_6 : mj_kr (tb ar) (ar 6) = true := by
  unfold mj_kr
  rw [List.any_eq_true]
  exact ⟨4, (show 4 ∈ ([3, 4, 5, 7] : List Nat) from by decide), by simp [mj_ar, tb]⟩
theorem ix_300 (j : Nat) : mj_ix (nI (j % 300)) 300 = true := by
  have h3 : j % 300 < 300 := Nat.mod_lt _ (by decide)
  unfold mj_ix
  rw [nI_clamp (by omega)]
  simp [nI_pos (show j % 300 < 2 ^ 31 by omega)]
  omega
theorem cl_300 (j : Nat) : (nI (j % 300)).toNatClampNeg = j % 300 := nI_clamp (by omega)
theorem ak_4 : 4 ∈ mj_ak (tb ar) := (show 4 ∈ ([3, 4, 5, 7] : List Nat) from by decide)
theorem ar_6 : mj_ar (tb ar) 6 = ar 6 := rfl
theorem q_take_loop {q r h : Nat} {z : Value} (hqr : q ≠ r) (hq : σ.2.2 q = some (.inr (6, [.ref r, .int (nI h), z]))) (hh : h < 300) (i x : Value) : ∀ (k : Nat) (g : Nat → Option Nat), k < 300 → (∀ j v, g j = some v → v ≠ r ∧ ∃ fs, σ.2.2 v = some (.inr (4, fs))) →
    (mj_wp (tb ar) 30 (14, [some (.ref q), some i, some x, some (.int (nI k))], [], mj_up σ r (q_ar ar g)) Q ↔ mj_wp (tb ar) 30 (46, [some (.ref q), some i, some x, some (.int (nI 0))], [], mj_up σ r (q_ar ar (q_sh h k g))) Q)
  | 0, g, _, _ => by
    simp only [r30_14, r30_15, wo_nx, wo_ite, mj_ldi, mj_br1, mj_nx, List.getElem?_cons_zero, List.getElem?_cons_succ, mj_iif, decide_eq_true_eq, q_sh]
    rw [if_pos (by decide)]
  | k + 1, g, hk, hg => by
    have hq1 : (mj_up σ r (q_ar ar g)).2.2 q = some (.inr (6, [.ref r, .int (nI h), z])) := by rw [up_ne hqr]; exact hq
    have c1 : ¬ nI (k + 1) ≤ 0 := nI_nle (by omega) (by omega)
    have hg2 : ∀ j v, va_up g ((h + (k + 1)) % 300) (g ((h + k) % 300)) j = some v → v ≠ r ∧ ∃ fs, σ.2.2 v = some (.inr (4, fs)) := by
      intro j v hj
      unfold va_up at hj
      split at hj
      · exact hg _ v hj
      · exact hg _ v hj
    have ih := q_take_loop hqr hq hh i x k (va_up g ((h + (k + 1)) % 300) (g ((h + k) % 300))) (by omega) hg2
    rw [q_sh]
    refine Iff.trans ?_ ih
    rw [r30_14]
    simp only [r30_15, r30_18, r30_19, r30_22, r30_23, r30_24, r30_27, r30_28, r30_31, r30_32, r30_33, r30_34, r30_35, wo_nx, wo_ret, wo_ite, wo_call, bk_inl, mj_lda, mj_ldi, mj_b2, mj_br1, mj_nx, mj_gf, mj_fld, mj_k2, mj_rc, mj_cls, hq1, List.getElem?_cons_zero, List.getElem?_cons_succ, List.length_cons, List.length_nil, Nat.reduceAdd, Nat.reduceLT, if_true, if_false, mj_iif, decide_eq_true_eq, c1, List.take_succ_cons, List.take_zero, List.reverse_cons, List.reverse_nil, List.nil_append, List.cons_append, List.drop_succ_cons, List.drop_zero, List.map_cons, List.map_nil, cat_i, cat_r, Nat.reduceLeDiff, true_and, and_true, decide_true, mL_27, q_place hq1 hh (show k + 1 ≤ 300 by omega), nI_pred, q_place hq1 hh (show k ≤ 300 by omega), Option.toList_some, and_self]
    cases hv : g ((h + k) % 300) with
    | none =>
      simp only [r30_38, r30_39, r30_40, r30_43, wo_nx, mj_aald, mj_aast, up_eq, q_ar, kr_6, ix_300, cl_300, hv, va_rf, and_self, if_true, mj_nx, mj_inc, List.getElem?_cons_zero, List.getElem?_cons_succ, List.set_cons_succ, List.set_cons_zero, up_up, pk_m1]
    | some v =>
      obtain ⟨hvr, fs, hfs⟩ := hg _ v hv
      have hv1 : (mj_up σ r (q_ar ar g)).2.2 v = some (.inr (4, fs)) := by rw [up_ne hvr]; exact hfs
      simp only [r30_38, r30_39, r30_40, r30_43, wo_nx, mj_aald, mj_aast, up_eq, kr_6, ix_300, cl_300, hv, hv1, va_rf, and_self, if_true, mj_nx, mj_inc, List.getElem?_cons_zero, List.getElem?_cons_succ, List.set_cons_succ, List.set_cons_zero, up_up, pk_m1, Nat.reduceAdd, ar_6, ak_4]
end QU
