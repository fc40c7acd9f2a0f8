section MJH
variable {p : Program} {l : Launch} {e : Env} {R : Room} {s : State} {m : MethodId} {args : Array Value} {below : List Frame} {meth : Method} {c : Code} {Q : State → Prop} {Θ : mj_T} {D : va_G} {cl : List vw_C} {Ts : List Cond} {Rn : Nat → String} {k : Nat} {A : Nat → Prop} {H0 : Heap} {n0 s0 : Nat} {pc len : Nat} {L : List (Option Value)} {st : List Value} {σ : mj_S} {f' : mj_F}
theorem mj_P1 {H : Heap} {a : Nat} {x : va_E} (h : va_at D cl (a, x) H) : va_P D cl [(a, x)] H := by
  intro i q hq
  cases i with
  | zero => cases hq; exact h
  | succ i => simp at hq
theorem mj_K1 {cA : ClassId} {ty : FieldType} (hK : va_K D cl [] s) (h : ArrOfT s cA ty ∧ va_RA s cA ty) : va_K D cl [(cA, ty)] s := by
  refine ⟨hK.1, fun i q hq => ?_⟩
  cases i with
  | zero => cases hq; exact h
  | succ i => simp at hq
theorem mj_ix_in {i : Int32} {n : Nat} (h : mj_ix i n = true) : vp_in i n := by
  unfold mj_ix at h
  simp only [Bool.not_eq_true', Bool.or_eq_false_iff, decide_eq_false_iff_not] at h
  intro q
  rcases q with q | q
  · exact h.1 q
  · exact h.2 q
theorem mj_fit_ok {t : Option FieldType} {v : Value} (h : mj_fit t v = true) : ∃ ty, t = some ty ∧ narrow ty v = v ∧ fits ty v = true := by
  unfold mj_fit at h
  split at h
  · split at h
    · exact ⟨_, rfl, rfl, rfl⟩
    · cases h
  · split at h
    · next x =>
      simp only [decide_eq_true_eq] at h
      rcases h with rfl | rfl
      · exact ⟨_, rfl, rfl, rfl⟩
      · exact ⟨_, rfl, rfl, rfl⟩
    · cases h
  · split at h
    · exact ⟨_, rfl, rfl, rfl⟩
    · exact ⟨_, rfl, rfl, rfl⟩
    · cases h
  · split at h
    · exact ⟨_, rfl, rfl, rfl⟩
    · exact ⟨_, rfl, rfl, rfl⟩
    · cases h
  · cases h
theorem ms_getfield {ix : Nat} (C : mj_Cx p s m args meth c Θ D cl Ts Rn k A H0) (hdg : decode (mj_cc Θ k) pc = .ok (.getfield ix, len)) (h : mj_i Θ k (.getfield ix) len pc L st σ = some (.inl f')) (kk : mj_W p l e R s m args below meth c Q D cl A H0 n0 s0 (mj_mL Θ k) f') : mj_W p l e R s m args below meth c Q D cl A H0 n0 s0 (mj_mL Θ k) (pc, L, st, σ) := by
  obtain ⟨hx, hb, hml, hown, hts, hK, hKA, hin, hA, hok⟩ := C
  have h1 := ms_if h
  clear h
  obtain ⟨rfl, h⟩ := h1
  unfold mj_get at h
  split at h
  · next a r =>
    split at h
    · next ci j fin hfl =>
      split at h
      · next cj fs ha =>
        have h1 := ms_if h
        clear h
        obtain ⟨rfl, h⟩ := h1
        cases hv : fs[j]? with
        | none => rw [hv] at h; cases h
        | some v =>
          rw [hv] at h
          obtain rfl := ms_nx h
          intro H locs ls hH hl hS hdm hn hs
          obtain ⟨T, hc, hj, hlk, -, -⟩ := hok.1 _ _ _ _ _ hfl
          obtain ⟨-, -, hin2, -, -⟩ := hok.2.1 _ _ hc
          exact va_get (D := D) (cl := cl) (C := Rn cj) (T := T) (N := (mj_ty Θ cj).length) hx hb hts hin2 hown hK (mj_P1 (hH.2 a _ ha)) 0 rfl hc j hj (hts _ hlk) (fun _ h9 => h9) hv hdg (kk H locs ls hH hl hS hdm hn hs)
      · cases h
    · cases h
  · cases h
/-- a field is written: the object's other fields and all other cells stay -/
theorem mj_putW {H : Heap} {locs : List Loc} {cells slots : Nat} {ls : Array Slot} {rest : List Value} {ix ci j a : Nat} {fin : Bool} {fs : List Value} {v : Value} {ty : FieldType} (C : mj_Cx p s m args meth c Θ D cl Ts Rn k A H0) (hfl : mj_fl Θ (mj_o Θ k) ix = some (ci, j, fin)) (ha : va_at D cl (a, .inr (ci, fs)) H) (hjl : j < fs.length) (hty : (mj_ty Θ ci)[j]? = some ty) (hnw : narrow ty v = v) (hft : fits ty v = true) (hfin : fin = false ∨ (mj_kd Θ k = 2 ∧ ci = mj_o Θ k)) (hAa : A a) (hS : va_S A H0 H locs) (hdg : decode (mj_cc Θ k) pc = .ok (.putfield ix, 3))
    (kk : ∀ (H1 : Heap) (locs1 : List Loc), va_at D cl (a, .inr (ci, fs.set j v)) H1 → H1.size = H.size → (∀ q, q ≠ a → H1[q]? = H[q]?) → va_S A H0 H1 locs1 → W p l e R s m args below meth c H1 locs1 cells slots Q (F0 m (pc + 3) ls rest)) : W p l e R s m args below meth c H locs cells slots Q (F0 m pc ls (v :: .ref a :: rest)) := by
  obtain ⟨hx, hb, hml, hown, hts, hK, hKA, hin, hA, hok⟩ := C
  obtain ⟨T, hc, hj, hlk, hf1, hf2⟩ := hok.1 _ _ _ _ _ hfl
  obtain ⟨-, -, hin2, hpd, hnm⟩ := hok.2.1 _ _ hc
  dsimp only at hin2 hpd hnm
  have hpd2 : ∀ i, i < (mj_ty Θ ci).length → parseFieldDescriptor (T i).2.2.1 = some ((mj_ty Θ ci).getD i .int) := by
    intro i hi
    rw [hpd i hi, List.getD_eq_getElem?_getD, List.getElem?_eq_getElem hi]
    rfl
  have hap := va_apart (own := Rn (mj_o Θ k)) hts hin2 _ hpd2 hnm hK hc
  obtain ⟨r, h1, cell, q1, q2, q3, q4⟩ := ha
  have hr : r = (Rn ci, T, (mj_ty Θ ci).length) := Option.some.inj (h1.symm.trans hc)
  subst hr
  obtain ⟨hSl, hfc, kC, hkC, hkind⟩ := hK.1 ci _ hc
  obtain ⟨cf, kf, fi, f, hi, hsl⟩ := hSl j hj
  have hd : parseFieldDescriptor (T j).2.2.1 = some ty := by rw [hpd j hj]; exact hty
  have hlay := hts _ (hin2 _ (u_in_lay hj))
  unfold u_lay at hlay
  have hst := (u_facts hfc hkC (u_lays hts hin2 hj) hi).1
  have fin1 : ∀ (H' : Heap) (n : Nat), H'[a]? = some (cell.setSlot f.slot v) → H'.size = H.size → (∀ q, q ≠ a → H'[q]? = H[q]?) → W p l e R s m args below meth c H' (locs ++ [⟨a, n⟩]) cells slots Q (F0 m (pc + 3) ls rest) := by
    intro H' n e1 e2 e3
    rw [hsl] at e1
    exact kk H' _ ⟨_, hc, t_OB.to (V := updV (vp_V fs) j v) ⟨_, e1, q2, q3, t_set q4 hap hj v⟩ (fun i _ => vp_updV_set hjl v i)⟩ e2 e3 (hS.put e2 e3 hAa)
  by_cases hF : (T j).2.2.2 = true
  · rw [if_pos hF] at hlay
    have hft2 : fin = true := by rw [← hf1]; exact hF
    have hko : mj_kd Θ k = 2 ∧ ci = mj_o Θ k := by
      rcases hfin with h | h
      · rw [hft2] at h; cases h
      · exact h
    have hcf : m.cls = cf := by
      obtain ⟨_, _, c', _, _, _, -, -, hf', -, -, -, hown2, -⟩ := Cond.laysFinal_spec hlay
      have e1 : c' = cf := by have := hi.symm.trans hf'; simp at this; exact this.1.symm
      rw [hf2 hft2, hko.2] at hown2
      rw [← e1]; exact Option.some.inj (hown.symm.trans hown2)
    have h6 := u_fits hfc hkC hkind (Or.inr hlay) hi hd hnw hft
    exact W.putFinK hx hb hown (hts _ hlk) hi hst hcf (hin hko.1) (by rw [q2]; exact h6) q1 q3 (by rw [hsl]; exact k2_hasslot (q4 j hj)) rfl rfl hdg fun H' e1 e2 e3 => fin1 H' _ e1 e2 e3
  · rw [if_neg hF] at hlay
    have h6 := u_store hfc hkC hkind hlay hi hd hnw hft
    exact W.putK hx hb (f := f) ⟨hown, hts _ hlk, ⟨_, _, _, hi⟩, hst⟩ (by rw [q2]; exact h6) q1 q3 (by rw [hsl]; exact k2_hasslot (q4 j hj)) rfl rfl hdg fun H' e1 e2 e3 => fin1 H' _ e1 e2 e3
theorem ms_putfield {ix : Nat} (C : mj_Cx p s m args meth c Θ D cl Ts Rn k A H0) (hdg : decode (mj_cc Θ k) pc = .ok (.putfield ix, len)) (h : mj_i Θ k (.putfield ix) len pc L st σ = some (.inl f')) (kk : mj_W p l e R s m args below meth c Q D cl A H0 n0 s0 (mj_mL Θ k) f') : mj_W p l e R s m args below meth c Q D cl A H0 n0 s0 (mj_mL Θ k) (pc, L, st, σ) := by
  have h1 := ms_if h
  clear h
  obtain ⟨rfl, h⟩ := h1
  unfold mj_put at h
  split at h
  · next v a r =>
    split at h
    · next ci j fin hfl =>
      split at h
      · next cj fs ha =>
        have h1 := ms_if h
        clear h
        obtain ⟨⟨rfl, hj, hf, hfin⟩, h⟩ := h1
        obtain rfl := ms_nx h
        obtain ⟨ty, hty, hnw, hft⟩ := mj_fit_ok hf
        intro H locs ls hH hl hS hdm hn hs
        exact mj_putW C hfl (hH.2 a _ ha) hj hty hnw hft hfin (hdm a _ ha) hS hdg (fun H1 locs1 e1 e2 e3 hS1 => kk H1 locs1 ls (hH.up e1 e2 e3) hl hS1 (mj_dom_up hdm (hdm a _ ha)) hn hs)
      · cases h
    · cases h
  · cases h
theorem ms_iaload (C : mj_Cx p s m args meth c Θ D cl Ts Rn k A H0) (hdg : decode (mj_cc Θ k) pc = .ok (.iaload, len)) (h : mj_i Θ k .iaload len pc L st σ = some (.inl f')) (kk : mj_W p l e R s m args below meth c Q D cl A H0 n0 s0 (mj_mL Θ k) f') : mj_W p l e R s m args below meth c Q D cl A H0 n0 s0 (mj_mL Θ k) (pc, L, st, σ) := by
  obtain ⟨hx, hb, hml, hown, hts, hK, hKA, hin, hA, hok⟩ := C
  have h1 := ms_if h
  clear h
  obtain ⟨rfl, h⟩ := h1
  unfold mj_iald at h
  split at h
  · next i a r =>
    split at h
    · next cA n f ha =>
      have h1 := ms_if h
      clear h
      obtain ⟨⟨rfl, hi⟩, h⟩ := h1
      obtain rfl := ms_nx h
      intro H locs ls hH hl hS hdm hn hs
      exact va_iald hx hb (mj_K1 hK hKA.1) (mj_P1 (hH.2 a _ ha)) 0 0 rfl rfl (mj_ix_in hi) hdg (kk H locs ls hH hl hS hdm hn hs)
    · cases h
  · cases h
theorem ms_baload (C : mj_Cx p s m args meth c Θ D cl Ts Rn k A H0) (hdg : decode (mj_cc Θ k) pc = .ok (.baload, len)) (h : mj_i Θ k .baload len pc L st σ = some (.inl f')) (kk : mj_W p l e R s m args below meth c Q D cl A H0 n0 s0 (mj_mL Θ k) f') : mj_W p l e R s m args below meth c Q D cl A H0 n0 s0 (mj_mL Θ k) (pc, L, st, σ) := by
  obtain ⟨hx, hb, hml, hown, hts, hK, hKA, hin, hA, hok⟩ := C
  have h1 := ms_if h
  clear h
  obtain ⟨rfl, h⟩ := h1
  unfold mj_iald at h
  split at h
  · next i a r =>
    split at h
    · next cA n f ha =>
      have h1 := ms_if h
      clear h
      obtain ⟨⟨rfl, hi⟩, h⟩ := h1
      obtain rfl := ms_nx h
      intro H locs ls hH hl hS hdm hn hs
      exact va_zald hx hb (mj_K1 hK hKA.2.1) (mj_P1 (hH.2 a _ ha)) 0 0 rfl rfl (mj_ix_in hi) hdg (kk H locs ls hH hl hS hdm hn hs)
    · cases h
  · cases h
theorem mj_kr_of {cA : ClassId} (h : mj_kr Θ cA = true) : ∃ ci ∈ mj_ak Θ, cA = mj_ar Θ (2 + ci) := by
  unfold mj_kr at h
  rw [List.any_eq_true] at h
  obtain ⟨ci, h1, h2⟩ := h
  exact ⟨ci, h1, by simpa using h2⟩
theorem ms_aaload (C : mj_Cx p s m args meth c Θ D cl Ts Rn k A H0) (hdg : decode (mj_cc Θ k) pc = .ok (.aaload, len)) (h : mj_i Θ k .aaload len pc L st σ = some (.inl f')) (kk : mj_W p l e R s m args below meth c Q D cl A H0 n0 s0 (mj_mL Θ k) f') : mj_W p l e R s m args below meth c Q D cl A H0 n0 s0 (mj_mL Θ k) (pc, L, st, σ) := by
  obtain ⟨hx, hb, hml, hown, hts, hK, hKA, hin, hA, hok⟩ := C
  have h1 := ms_if h
  clear h
  obtain ⟨rfl, h⟩ := h1
  unfold mj_aald at h
  split at h
  · next i a r =>
    split at h
    · next cA n f ha =>
      have h1 := ms_if h
      clear h
      obtain ⟨⟨hkr, hi⟩, h⟩ := h1
      obtain ⟨ci, hci, rfl⟩ := mj_kr_of hkr
      obtain rfl := ms_nx h
      intro H locs ls hH hl hS hdm hn hs
      exact va_aldq hx hb (mj_K1 hK (hKA.2.2 ci hci).1) (mj_P1 (hH.2 a _ ha)) 0 0 rfl rfl (mj_ix_in hi) hdg (kk H locs ls hH hl hS hdm hn hs)
    · cases h
  · cases h
theorem ms_arraylength (C : mj_Cx p s m args meth c Θ D cl Ts Rn k A H0) (hdg : decode (mj_cc Θ k) pc = .ok (.arraylength, len)) (h : mj_i Θ k .arraylength len pc L st σ = some (.inl f')) (kk : mj_W p l e R s m args below meth c Q D cl A H0 n0 s0 (mj_mL Θ k) f') : mj_W p l e R s m args below meth c Q D cl A H0 n0 s0 (mj_mL Θ k) (pc, L, st, σ) := by
  obtain ⟨hx, hb, hml, hown, hts, hK, hKA, hin, hA, hok⟩ := C
  have h1 := ms_if h
  clear h
  obtain ⟨rfl, h⟩ := h1
  unfold mj_alen at h
  split at h
  · next a r =>
    split at h
    · next cA x ha =>
      have h1 := ms_if h
      clear h
      obtain ⟨hka, h⟩ := h1
      have hT : ∃ ty, ArrOfT s cA ty ∧ va_RA s cA ty := by
        unfold mj_ka at hka
        simp only [Bool.or_eq_true, decide_eq_true_eq] at hka
        rcases hka with (rfl | rfl) | hka
        · exact ⟨_, hKA.1⟩
        · exact ⟨_, hKA.2.1⟩
        · obtain ⟨ci, hci, rfl⟩ := mj_kr_of hka
          exact ⟨_, (hKA.2.2 ci hci).1⟩
      obtain ⟨ty, hT⟩ := hT
      obtain rfl := ms_nx h
      intro H locs ls hH hl hS hdm hn hs
      exact va_alen hx hb (mj_K1 hK hT) (mj_P1 (hH.2 a _ ha)) 0 0 rfl rfl rfl hdg (kk H locs ls hH hl hS hdm hn hs)
    · cases h
  · cases h
theorem ms_iastore (C : mj_Cx p s m args meth c Θ D cl Ts Rn k A H0) (hdg : decode (mj_cc Θ k) pc = .ok (.iastore, len)) (h : mj_i Θ k .iastore len pc L st σ = some (.inl f')) (kk : mj_W p l e R s m args below meth c Q D cl A H0 n0 s0 (mj_mL Θ k) f') : mj_W p l e R s m args below meth c Q D cl A H0 n0 s0 (mj_mL Θ k) (pc, L, st, σ) := by
  obtain ⟨hx, hb, hml, hown, hts, hK, hKA, hin, hA, hok⟩ := C
  have h1 := ms_if h
  clear h
  obtain ⟨rfl, h⟩ := h1
  unfold mj_iast at h
  split at h
  · next x i a r =>
    split at h
    · next cA n f ha =>
      have h1 := ms_if h
      clear h
      obtain ⟨⟨rfl, hi⟩, h⟩ := h1
      obtain rfl := ms_nx h
      intro H locs ls hH hl hS hdm hn hs
      refine W.iast hx hb (hH.2 a _ ha) (hKA.1.1 n (fun j => .int (f j))) (fun q => by cases q) (by show ¬ (i < 0 ∨ (arrV _ _ _).slots.size ≤ _); rw [arrV_size]; exact mj_ix_in hi) rfl rfl hdg fun H1 e1 z oq => ?_
      refine kk H1 _ ls (hH.up ?_ z oq) hl (hS.put z oq (hdm a _ ha)) (mj_dom_up hdm (hdm a _ ha)) hn hs
      show H1[a]? = some (vp_cell _ _)
      rw [e1]
      rw [vp_cell_i, vp_cell_i, arrV_store]
      congr 2
      funext q
      by_cases hq : q = i.toNatClampNeg
      · subst hq
        simp [updV, upd]
      · simp [updV, upd, hq]
    · cases h
  · cases h
theorem ms_bastore (C : mj_Cx p s m args meth c Θ D cl Ts Rn k A H0) (hdg : decode (mj_cc Θ k) pc = .ok (.bastore, len)) (h : mj_i Θ k .bastore len pc L st σ = some (.inl f')) (kk : mj_W p l e R s m args below meth c Q D cl A H0 n0 s0 (mj_mL Θ k) f') : mj_W p l e R s m args below meth c Q D cl A H0 n0 s0 (mj_mL Θ k) (pc, L, st, σ) := by
  obtain ⟨hx, hb, hml, hown, hts, hK, hKA, hin, hA, hok⟩ := C
  have h1 := ms_if h
  clear h
  obtain ⟨rfl, h⟩ := h1
  unfold mj_zast at h
  split at h
  · next x i a r =>
    split at h
    · next cA n f ha =>
      have h1 := ms_if h
      clear h
      obtain ⟨⟨rfl, hi, h01⟩, h⟩ := h1
      obtain rfl := ms_nx h
      have hnw : narrow .boolean (.int x) = .int x := by rcases h01 with rfl | rfl <;> rfl
      intro H locs ls hH hl hS hdm hn hs
      refine W.zast hx hb (hH.2 a _ ha) (hKA.2.1.1 n (fun j => .int (f j))) (fun q => by cases q) (by show ¬ (i < 0 ∨ (arrV _ _ _).slots.size ≤ _); rw [arrV_size]; exact mj_ix_in hi) rfl rfl hdg fun H1 e1 z oq => ?_
      refine kk H1 _ ls (hH.up ?_ z oq) hl (hS.put z oq (hdm a _ ha)) (mj_dom_up hdm (hdm a _ ha)) hn hs
      show H1[a]? = some (vp_cell _ _)
      rw [e1, hnw]
      rw [vp_cell_i, vp_cell_i, arrV_store]
      congr 2
      funext q
      by_cases hq : q = i.toNatClampNeg
      · subst hq
        simp [updV, upd]
      · simp [updV, upd, hq]
    · cases h
  · cases h
end MJH
