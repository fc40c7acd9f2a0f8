section QU
variable {ar : Nat → ClassId} {σ : mj_S} {Q : (Option Value ⊕ String) → mj_S → Prop}
theorem mL_27 : mj_mL (tb ar) 27 = 3 := rfl
theorem mL_28 : mj_mL (tb ar) 28 = 2 := rfl
theorem en_27 {a b : Value} : mj_en (tb ar) 27 [a, b] σ = (0, [some a, some b, none], [], σ) := rfl
theorem en_28 {a b : Value} : mj_en (tb ar) 28 [a, b] σ = (0, [some a, some b], [], σ) := rfl
theorem cat_i {x : Int32} : (Value.int x).category = 1 := rfl
theorem cat_r {x : Nat} : (Value.ref x).category = 1 := rfl
theorem cat_n : Value.null.category = 1 := rfl
theorem nI_300 : nI 300 = 300 := rfl
theorem q_place {q r h i : Nat} {z : Value} (hq : σ.2.2 q = some (.inr (6, [.ref r, .int (nI h), z]))) (hh : h < 300) (hi : i ≤ 300) : mj_wp (tb ar) 27 (mj_en (tb ar) 27 [.ref q, .int (nI i)] σ) Q ↔ Q (.inl (some (.int (nI ((h + i) % 300))))) σ := by
  rw [en_27]
  simp only [r27_0, r27_1, r27_4, r27_5, r27_6, r27_7, r27_8, r27_11, r27_22, r27_23, r27_14, r27_15, r27_18, r27_19, wo_nx, wo_ret, wo_ite, mj_lda, mj_ldi, mj_sti, mj_b2, mj_br2, mj_ir, mj_nx, mj_gf, mj_fld, hq, List.getElem?_cons_zero, List.getElem?_cons_succ, List.length_cons, List.length_nil, List.set_cons_succ, List.set_cons_zero, Nat.reduceAdd, Nat.reduceLT, if_true, mj_iif, decide_eq_true_eq, nI_add]
  by_cases hc : h + i < 300
  · rw [if_pos (by rw [← nI_300]; exact nI_lt hc (by decide)), Nat.mod_eq_of_lt hc]
  · rw [if_neg (by rw [← nI_300]; exact nI_nlt (by omega) (by omega)), ← nI_300, pk_sub (by omega)]
    have e : (h + i) % 300 = h + i - 300 := by omega
    rw [e]
theorem q_at {q r h n i : Nat} {g : Nat → Option Nat} (hq : σ.2.2 q = some (.inr (6, [.ref r, .int (nI h), .int (nI n)]))) (hr : σ.2.2 r = some (.inl (ar 6, 300, .inr (.inr (.inr (.inr g)))))) (hh : h < 300) (hn : n ≤ 300) (hi : i < n) : mj_wp (tb ar) 28 (mj_en (tb ar) 28 [.ref q, .int (nI i)] σ) Q ↔ Q (.inl (some (va_rf (g ((h + i) % 300))))) σ := by
  rw [en_28]
  have h1 : ¬ nI i < 0 := nI_pos (by omega)
  have h2 : ¬ nI n ≤ nI i := nI_ge hi (by omega)
  have hk : mj_kr (tb ar) (ar 6) = true := by
    unfold mj_kr
    rw [List.any_eq_true]
    exact ⟨4, (show 4 ∈ ([3, 4, 5, 7] : List Nat) from by decide), by simp [mj_ar, tb]⟩
  have hx : mj_ix (nI ((h + i) % 300)) 300 = true := by
    have h3 : (h + i) % 300 < 300 := Nat.mod_lt _ (by decide)
    unfold mj_ix
    rw [nI_clamp (by omega)]
    simp [nI_pos (show (h + i) % 300 < 2 ^ 31 by omega)]
    omega
  have hcl : (nI ((h + i) % 300)).toNatClampNeg = (h + i) % 300 := nI_clamp (by omega)
  simp only [r28_0, r28_1, r28_4, r28_5, r28_6, r28_9, r28_12, r28_13, r28_16, r28_17, r28_18, r28_21, r28_22, r28_25, r28_26, wo_nx, wo_ret, wo_ite, wo_call, bk_inl, mj_lda, mj_ldi, mj_sti, mj_b2, mj_br1, mj_br2, mj_ir, mj_rr, mj_nx, mj_gf, mj_fld, mj_k2, mj_rc, mj_cls, hq, hr, List.getElem?_cons_zero, List.getElem?_cons_succ, List.length_cons, List.length_nil, List.set_cons_succ, List.set_cons_zero, Nat.reduceAdd, Nat.reduceLT, if_true, if_false, mj_iif, decide_eq_true_eq, h1, h2, List.take_succ_cons, List.take_zero, List.reverse_cons, List.reverse_nil, List.nil_append, List.cons_append, List.drop_succ_cons, List.drop_zero, List.map_cons, List.map_nil, cat_i, cat_r, Nat.reduceLeDiff, true_and, and_true, decide_true, mL_27, q_place hq hh (Nat.le_trans (Nat.le_of_lt hi) hn), Option.toList_some, mj_aald, hk, hx, hcl, and_self]
  cases g ((h + i) % 300) with
  | none => simp only [va_rf, wo_ret]
  | some x => simp only [va_rf, wo_ret]
/-- the ring's arrays: of messages -/
abbrev q_ar (ar : Nat → ClassId) (g : Nat → Option Nat) : va_E := .inl (ar 6, 300, .inr (.inr (.inr (.inr g))))
theorem up_eq {σ : mj_S} {a : Nat} {e : va_E} : (mj_up σ a e).2.2 a = some e := by simp [mj_up]
theorem up_ne {σ : mj_S} {a b : Nat} {e : va_E} (h : b ≠ a) : (mj_up σ a e).2.2 b = σ.2.2 b := by simp [mj_up, h]
theorem up_up {σ : mj_S} {a : Nat} {e e' : va_E} : mj_up (mj_up σ a e) a e' = mj_up σ a e' := by
  unfold mj_up
  dsimp only
  congr 2
  funext b
  by_cases h : b = a
  · simp [h]
  · simp [h]
/-- take's loop: from place k down everything moves up by one -/
def q_sh (h : Nat) : Nat → (Nat → Option Nat) → (Nat → Option Nat)
  | 0, g => g
  | k + 1, g => q_sh h k (va_up g ((h + (k + 1)) % 300) (g ((h + k) % 300)))
theorem kr_6 : mj_kr (tb ar) (ar 6) = true := by
  unfold mj_kr
  rw [List.any_eq_true]
  exact ⟨4, (show 4 ∈ ([3, 4, 5, 7] : List Nat) from by decide), by simp [mj_ar, tb]⟩
theorem ix_300 (j : Nat) : mj_ix (nI (j % 300)) 300 = true := by
  have h3 : j % 300 < 300 := Nat.mod_lt _ (by decide)
  unfold mj_ix
  rw [nI_clamp (by omega)]
  simp [nI_pos (show j % 300 < 2 ^ 31 by omega)]
  omega
theorem cl_300 (j : Nat) : (nI (j % 300)).toNatClampNeg = j % 300 := nI_clamp (by omega)
theorem ak_4 : 4 ∈ mj_ak (tb ar) := (show 4 ∈ ([3, 4, 5, 7] : List Nat) from by decide)
theorem ar_6 : mj_ar (tb ar) 6 = ar 6 := rfl
theorem q_take_loop {q r h : Nat} {z : Value} (hqr : q ≠ r) (hq : σ.2.2 q = some (.inr (6, [.ref r, .int (nI h), z]))) (hh : h < 300) (i x : Value) : ∀ (k : Nat) (g : Nat → Option Nat), k < 300 → (∀ j v, g j = some v → v ≠ r ∧ ∃ fs, σ.2.2 v = some (.inr (4, fs))) →
    (mj_wp (tb ar) 30 (14, [some (.ref q), some i, some x, some (.int (nI k))], [], mj_up σ r (q_ar ar g)) Q ↔ mj_wp (tb ar) 30 (46, [some (.ref q), some i, some x, some (.int (nI 0))], [], mj_up σ r (q_ar ar (q_sh h k g))) Q)
  | 0, g, _, _ => by
    simp only [r30_14, r30_15, wo_nx, wo_ite, mj_ldi, mj_br1, mj_nx, List.getElem?_cons_zero, List.getElem?_cons_succ, mj_iif, decide_eq_true_eq, q_sh]
    rw [if_pos (by decide)]
  | k + 1, g, hk, hg => by
    have hq1 : (mj_up σ r (q_ar ar g)).2.2 q = some (.inr (6, [.ref r, .int (nI h), z])) := by rw [up_ne hqr]; exact hq
    have c1 : ¬ nI (k + 1) ≤ 0 := nI_nle (by omega) (by omega)
    have hg2 : ∀ j v, va_up g ((h + (k + 1)) % 300) (g ((h + k) % 300)) j = some v → v ≠ r ∧ ∃ fs, σ.2.2 v = some (.inr (4, fs)) := by
      intro j v hj
      unfold va_up at hj
      split at hj
      · exact hg _ v hj
      · exact hg _ v hj
    have ih := q_take_loop hqr hq hh i x k (va_up g ((h + (k + 1)) % 300) (g ((h + k) % 300))) (by omega) hg2
    rw [q_sh]
    refine Iff.trans ?_ ih
    rw [r30_14]
    simp only [r30_15, r30_18, r30_19, r30_22, r30_23, r30_24, r30_27, r30_28, r30_31, r30_32, r30_33, r30_34, r30_35, wo_nx, wo_ret, wo_ite, wo_call, bk_inl, mj_lda, mj_ldi, mj_b2, mj_br1, mj_nx, mj_gf, mj_fld, mj_k2, mj_rc, mj_cls, hq1, List.getElem?_cons_zero, List.getElem?_cons_succ, List.length_cons, List.length_nil, Nat.reduceAdd, Nat.reduceLT, if_true, if_false, mj_iif, decide_eq_true_eq, c1, List.take_succ_cons, List.take_zero, List.reverse_cons, List.reverse_nil, List.nil_append, List.cons_append, List.drop_succ_cons, List.drop_zero, List.map_cons, List.map_nil, cat_i, cat_r, Nat.reduceLeDiff, true_and, and_true, decide_true, mL_27, q_place hq1 hh (show k + 1 ≤ 300 by omega), nI_pred, q_place hq1 hh (show k ≤ 300 by omega), Option.toList_some, and_self]
    cases hv : g ((h + k) % 300) with
    | none =>
      simp only [r30_38, r30_39, r30_40, r30_43, wo_nx, mj_aald, mj_aast, up_eq, q_ar, kr_6, ix_300, cl_300, hv, va_rf, and_self, if_true, mj_nx, mj_inc, List.getElem?_cons_zero, List.getElem?_cons_succ, List.set_cons_succ, List.set_cons_zero, up_up, pk_m1]
    | some v =>
      obtain ⟨hvr, fs, hfs⟩ := hg _ v hv
      have hv1 : (mj_up σ r (q_ar ar g)).2.2 v = some (.inr (4, fs)) := by rw [up_ne hvr]; exact hfs
      simp only [r30_38, r30_39, r30_40, r30_43, wo_nx, mj_aald, mj_aast, up_eq, kr_6, ix_300, cl_300, hv, hv1, va_rf, and_self, if_true, mj_nx, mj_inc, List.getElem?_cons_zero, List.getElem?_cons_succ, List.set_cons_succ, List.set_cons_zero, up_up, pk_m1, Nat.reduceAdd, ar_6, ak_4]
theorem p_inj {h i j : Nat} (hi : i < 300) (hj : j < 300) (e : (h + i) % 300 = (h + j) % 300) : i = j := by omega
theorem q_sh_at (h : Nat) : ∀ (i : Nat) (g : Nat → Option Nat) (j : Nat), i < 300 → j < 300 → q_sh h i g ((h + j) % 300) = if 1 ≤ j ∧ j ≤ i then g ((h + (j - 1)) % 300) else g ((h + j) % 300)
  | 0, g, j, _, hj => by
    rw [if_neg (by omega)]
    rfl
  | i + 1, g, j, hi, hj => by
    rw [q_sh, q_sh_at h i _ j (by omega) hj]
    by_cases hc : 1 ≤ j ∧ j ≤ i
    · rw [if_pos hc, if_pos (by omega)]
      rw [va_up_ne _ _ (fun e => by have := p_inj (show j - 1 < 300 by omega) hi e; omega)]
    · rw [if_neg hc]
      by_cases hji : j = i + 1
      · subst hji
        rw [if_pos (by omega), va_up_self]
        rfl
      · rw [if_neg (by omega), va_up_ne _ _ (fun e => hji (p_inj hj hi e))]
theorem q_sh_mem (h : Nat) {P : Nat → Prop} : ∀ (i : Nat) (g : Nat → Option Nat), (∀ j v, g j = some v → P v) → ∀ j v, q_sh h i g j = some v → P v
  | 0, g, hg => hg
  | i + 1, g, hg => q_sh_mem h i _ (fun j v hj => by
      unfold va_up at hj
      split at hj
      · exact hg _ v hj
      · exact hg _ v hj)
theorem en_30 {a b : Value} : mj_en (tb ar) 30 [a, b] σ = (0, [some a, some b, none, none], [], σ) := rfl
theorem q_take {q r h n i x : Nat} {g : Nat → Option Nat} (hqr : q ≠ r) (hq : σ.2.2 q = some (.inr (6, [.ref r, .int (nI h), .int (nI n)]))) (hr : σ.2.2 r = some (q_ar ar g)) (hh : h < 300) (hn : n ≤ 300) (hi : i < n) (hx : g ((h + i) % 300) = some x) (hg : ∀ j v, g j = some v → v ≠ r ∧ ∃ fs, σ.2.2 v = some (.inr (4, fs))) :
    mj_wp (tb ar) 30 (mj_en (tb ar) 30 [.ref q, .int (nI i)] σ) Q ↔ Q (.inl (some (.ref x))) (mj_up (mj_up σ r (q_ar ar (va_up (q_sh h i g) h none))) q (.inr (6, [.ref r, .int (nI ((h + 1) % 300)), .int (nI (n - 1))]))) := by
  rw [en_30]
  have e0 : mj_up σ r (q_ar ar g) = σ := by
    obtain ⟨a, b, f⟩ := σ
    unfold mj_up
    dsimp only at hr ⊢
    congr 2
    funext c
    by_cases hc : c = r
    · subst hc
      simp [hr]
    · simp [hc]
  simp only [r30_0, r30_1, r30_2, wo_nx, wo_ite, wo_call, mj_lda, mj_ldi, mj_nx, mj_k2, mj_rc, mj_cls, hq, List.getElem?_cons_zero, List.getElem?_cons_succ, List.length_cons, List.length_nil, Nat.reduceAdd, Nat.reduceLT, if_true, decide_eq_true_eq, List.take_succ_cons, List.take_zero, List.reverse_cons, List.reverse_nil, List.nil_append, List.cons_append, List.drop_succ_cons, List.drop_zero, List.map_cons, List.map_nil, cat_i, cat_r, Nat.reduceLeDiff, true_and, and_true, decide_true, mL_28, q_at hq hr hh hn hi, hx, va_rf, bk_inl, Option.toList_some, and_self, Nat.le_refl]
  simp only [r30_5, r30_6, r30_7, r30_12, r30_13, wo_nx, mj_sta, mj_lda, mj_brn, mj_ldi, mj_sti, mj_nx, List.getElem?_cons_zero, List.getElem?_cons_succ, List.length_cons, List.length_nil, List.set_cons_succ, List.set_cons_zero, Nat.reduceAdd, Nat.reduceLT, if_true]
  have hl := q_take_loop (ar := ar) (Q := Q) hqr hq hh (.int (nI i)) (.ref x) i g (by omega) hg
  rw [e0] at hl
  rw [hl]
  have hq1 : (mj_up σ r (q_ar ar (q_sh h i g))).2.2 q = some (.inr (6, [.ref r, .int (nI h), .int (nI n)])) := by rw [up_ne hqr]; exact hq
  have hq2 : ∀ g' : Nat → Option Nat, (mj_up σ r (q_ar ar g')).2.2 q = some (.inr (6, [.ref r, .int (nI h), .int (nI n)])) := fun g' => by rw [up_ne hqr]; exact hq
  have hix : mj_ix (nI h) 300 = true := by have := ix_300 h; rwa [Nat.mod_eq_of_lt hh] at this
  have hcl : (nI h).toNatClampNeg = h := nI_clamp (by omega)
  have e1 : nI n - 1 = nI (n - 1) := by
    obtain ⟨n', rfl⟩ : ∃ n', n = n' + 1 := ⟨n - 1, by omega⟩
    exact nI_pred n'
  simp only [r30_46, r30_47, r30_50, r30_51, r30_54, r30_55, wo_nx, mj_lda, mj_nx, mj_gf, mj_fld, hq1, mj_aast, up_eq, kr_6, hix, hcl, and_self, if_true, List.getElem?_cons_zero, List.getElem?_cons_succ, up_up]
  simp only [r30_56, r30_57, r30_58, r30_59, wo_nx, wo_ite, wo_call, mj_lda, mj_nx, mj_k2, mj_rc, mj_cls, hq2, List.getElem?_cons_zero, List.getElem?_cons_succ, List.length_cons, List.length_nil, Nat.reduceAdd, Nat.reduceLT, if_true, decide_eq_true_eq, List.take_succ_cons, List.take_zero, List.reverse_cons, List.reverse_nil, List.nil_append, List.cons_append, List.drop_succ_cons, List.drop_zero, List.map_cons, List.map_nil, cat_i, cat_r, Nat.reduceLeDiff, true_and, and_true, decide_true, mL_27, and_self, Nat.le_refl]
  rw [show (Value.int 1) = .int (nI 1) from rfl, q_place (hq2 _) hh (by decide)]
  simp only [bk_inl, Option.toList_some, List.cons_append, List.nil_append, r30_62, r30_65, r30_66, r30_67, r30_70, r30_71, r30_72, r30_75, r30_76, wo_nx, wo_ite, wo_ret, mj_pf, mj_fld, mj_sf, mj_fit, hq2, mj_lda, mj_dup, mj_gf, mj_b2, mj_nx, mj_rr, up_eq, up_up, if_true, Option.isSome_some, and_self, List.getElem?_cons_zero, List.getElem?_cons_succ, List.set_cons_succ, List.set_cons_zero, e1]
end QU
