section MJG
variable {p : Program} {l : Launch} {e : Env} {R : Room} {s : State} {m : MethodId} {args : Array Value} {below : List Frame} {meth : Method} {c : Code} {Q : State → Prop} {Θ : mj_T} {D : va_G} {cl : List vw_C} {Ts : List Cond} {Rn : Nat → String} {k : Nat} {A : Nat → Prop} {H0 : Heap} {n0 s0 : Nat} {pc len : Nat} {L : List (Option Value)} {st : List Value} {σ : mj_S} {f' : mj_F}
theorem ms_aastore (C : mj_Cx p s m args meth c Θ D cl Ts Rn k A H0) (hdg : decode (mj_cc Θ k) pc = .ok (.aastore, len)) (h : mj_i Θ k .aastore len pc L st σ = some (.inl f')) (kk : mj_W p l e R s m args below meth c Q D cl A H0 n0 s0 (mj_mL Θ k) f') : mj_W p l e R s m args below meth c Q D cl A H0 n0 s0 (mj_mL Θ k) (pc, L, st, σ) := by
  obtain ⟨hx, hb, hml, hown, hts, hK, hKA, hin, hA, hok⟩ := C
  have h1 := ms_if h
  clear h
  obtain ⟨rfl, h⟩ := h1
  unfold mj_aast at h
  split at h
  · next v i a r =>
    split at h
    · next ci vs hv =>
      split at h
      · next cA n f ha =>
        have h1 := ms_if h
        clear h
        obtain ⟨⟨rfl, hci, hi⟩, h⟩ := h1
        obtain rfl := ms_nx h
        intro H locs ls hH hl hS hdm hn hs
        have hI := mj_ix_in hi
        have hlt : i.toNatClampNeg < n := Nat.not_le.mp fun q => hI (Or.inr q)
        have h0 : ¬ i < 0 := fun q => hI (Or.inl q)
        obtain ⟨r', hr', cellV, g1, g2, g3, -⟩ := hH.2 v _ hv
        have hcls := (hK.1 ci r' hr').2
        rw [(hok.2.1 ci r' hr').1] at hcls
        obtain ⟨kA, comp, k1, k2, k3, -⟩ := (hKA.2.2 ci hci).1.2
        have hcomp : comp = D.1 ci := Option.some.inj (k3.symm.trans hcls.1)
        subst hcomp
        obtain ⟨kC, hkC, -⟩ := hcls.2
        refine W.aast hx hb (hH.2 a _ ha) (fun q h => by cases h) (fun h => by cases h) k1 k2 rfl hkC ⟨h0, by show _ < (arrV _ _ _).slots.size; rw [arrV_size]; exact hlt⟩ g1 (fun q h => by rw [g3] at h; cases h) (by rw [g2]; exact hkC) (by rw [g2]; exact va_assign hcls) rfl rfl hdg fun H1 e1 z oq => ?_
        refine kk H1 _ ls (hH.up ?_ z oq) hl (hS.put z oq (hdm a _ ha)) (mj_dom_up hdm (hdm a _ ha)) hn hs
        show H1[a]? = some (vp_cell _ _)
        rw [e1]
        rw [vp_cell_q, vp_cell_q, arrV_store]
        congr 2
        funext q
        by_cases hq : q = i.toNatClampNeg
        · subst hq
          simp [updV, va_up, va_rf]
        · simp [updV, va_up, hq]
      · cases h
    · cases h
  · next i a r =>
    split at h
    · next cA n f ha =>
      have h1 := ms_if h
      clear h
      obtain ⟨⟨hkr, hi⟩, h⟩ := h1
      obtain ⟨ci, hci, rfl⟩ := mj_kr_of hkr
      obtain rfl := ms_nx h
      intro H locs ls hH hl hS hdm hn hs
      refine va_WaastN (C := Rn ci) hx hb (hH.2 a _ ha) ((hKA.2.2 ci hci).1.1 n (fun j => va_rf (f j))) (fun h => by cases h) (by show ¬ (i < 0 ∨ (arrV _ _ _).slots.size ≤ _); rw [arrV_size]; exact mj_ix_in hi) rfl rfl hdg fun H1 e1 z oq => ?_
      refine kk H1 _ ls (hH.up ?_ z oq) hl (hS.put z oq (hdm a _ ha)) (mj_dom_up hdm (hdm a _ ha)) hn hs
      show H1[a]? = some (vp_cell _ _)
      rw [e1]
      rw [vp_cell_q, vp_cell_q, arrV_store]
      congr 2
      funext q
      by_cases hq : q = i.toNatClampNeg
      · subst hq
        simp [updV, va_up, va_rf]
      · simp [updV, va_up, hq]
    · cases h
  · cases h
/-- a new cell: the world behind it -/
theorem mj_newS {H H1 : Heap} {locs : List Loc} (hS : va_S A H0 H locs) (z : H1.size = H.size + 1) (o1 : ∀ q, q < H.size → H1[q]? = H[q]?) : va_S A H0 H1 locs :=
  ⟨Nat.le_trans hS.1 (by omega), fun x h1 h2 => (o1 x (Nat.lt_of_lt_of_le h1 hS.1)).trans (hS.2.1 x h1 h2), hS.2.2⟩
theorem mj_RA_eq {C1 : ClassId} {ty : FieldType} {cA : ClassId} (h : va_RA s C1 ty) (hp : ty = .int ∨ ty = .boolean) (hf : s.vm.findClass ("[" ++ ty.toString) = some cA) : cA = C1 := by
  rcases hp with rfl | rfl
  · exact Option.some.inj (hf.symm.trans h)
  · exact Option.some.inj (hf.symm.trans h)
theorem ms_newa {t q : Nat} (h : mj_newa Θ t q L st σ = some (.inl f')) : ∃ (n : Int32) (r : List Value), st = .int n :: r ∧ ¬ n < 0 ∧ n.toNatClampNeg ≤ 1000000 ∧ f' = (q, L, .ref σ.1 :: r, mj_add σ n.toNatClampNeg (.inl (mj_ar Θ t, n.toNatClampNeg, .inl (fun _ => 0)))) := by
  unfold mj_newa at h
  split at h
  · next n r => exact ⟨n, r, rfl, (ms_if h).1.1, (ms_if h).1.2, ms_nx (ms_if h).2⟩
  · cases h
theorem ms_newarray {t : ArrayType} (C : mj_Cx p s m args meth c Θ D cl Ts Rn k A H0) (hR : f'.2.2.2.1 - n0 ≤ R.cells ∧ f'.2.2.2.2.1 - s0 ≤ R.slots) (hdg : decode (mj_cc Θ k) pc = .ok (.newarray t, len)) (h : mj_i Θ k (.newarray t) len pc L st σ = some (.inl f')) (kk : mj_W p l e R s m args below meth c Q D cl A H0 n0 s0 (mj_mL Θ k) f') : mj_W p l e R s m args below meth c Q D cl A H0 n0 s0 (mj_mL Θ k) (pc, L, st, σ) := by
  obtain ⟨hx, hb, hml, hown, hts, hK, hKA, hin, hA, hok⟩ := C
  have h1 := ms_if h
  clear h
  obtain ⟨rfl, h⟩ := h1
  have key : ∀ (tt : Nat) (ty : FieldType), newarray.typeOf t = ty → (ty = .int ∨ ty = .boolean) → va_RA s (mj_ar Θ tt) ty → (Cond.arrayClass ty).before args s = true → componentBytes ty ≤ 4 → (∀ cA : ClassId, ∀ n : Nat, vp_cell cA (n, .inl (fun _ => 0)) = arrV cA n (fun _ => defaultValue ty)) → mj_newa Θ tt (pc + 2) L st σ = some (.inl f') → mj_W p l e R s m args below meth c Q D cl A H0 n0 s0 (mj_mL Θ k) (pc, L, st, σ) := by
    intro tt ty hty hp hra hac hcb hdv h
    obtain ⟨n, r, rfl, hn0, hle, rfl⟩ := ms_newa h
    intro H locs ls hH hl hS hdm hn hs
    dsimp only at hn hs hH hdm hR
    have hr1 : σ.1 - n0 + 1 ≤ R.cells := by have := hR.1; simp only [mj_add] at this; omega
    have hr2 : σ.2.1 - s0 + n.toNatClampNeg ≤ R.slots := by have := hR.2; simp only [mj_add] at this; omega
    subst hty
    refine va_newaK hx hb hac rfl hdg rfl hn0 rfl (Nat.le_trans (Nat.mul_le_mul_left _ hcb) (by omega)) hr1 hr2 (h := H.size) rfl fun H1 cA e1 z1 o1 hAr hNm => ?_
    have hcA := mj_RA_eq hra hp hNm
    subst hcA
    have K := kk H1 locs ls (hH.add (n := n.toNatClampNeg) (x := .inl (mj_ar Θ tt, n.toNatClampNeg, .inl (fun _ => 0))) (by show H1[σ.1]? = some (vp_cell _ _); rw [hH.1, hdv]; exact e1) z1 o1) hl (mj_newS hS z1 o1) (mj_dom_add hdm (by rw [hH.1]; exact hA _ hS.1)) (by show n0 ≤ σ.1 + 1; omega) (by show s0 ≤ σ.2.1 + _; omega)
    have ec : (mj_add σ n.toNatClampNeg (.inl (mj_ar Θ tt, n.toNatClampNeg, .inl (fun _ => 0)))).1 - n0 = σ.1 - n0 + 1 := by show σ.1 + 1 - n0 = _; omega
    have es : (mj_add σ n.toNatClampNeg (.inl (mj_ar Θ tt, n.toNatClampNeg, .inl (fun _ => 0)))).2.1 - s0 = σ.2.1 - s0 + n.toNatClampNeg := by show σ.2.1 + n.toNatClampNeg - s0 = _; omega
    dsimp only at K
    rw [ec, es, hH.1] at K
    rw [← hH.1]
    rw [← hH.1] at K
    exact K
  cases t with
  | int => exact key 0 .int rfl (Or.inl rfl) hKA.1.2 (hts _ hok.2.2.2.2.2.2.2.1) (by decide) (fun _ _ => rfl) h
  | boolean => exact key 1 .boolean rfl (Or.inr rfl) hKA.2.1.2 (hts _ hok.2.2.2.2.2.2.2.2.1) (by decide) (fun _ _ => rfl) h
  | _ => cases h
theorem ms_anewarray {ix : Nat} (C : mj_Cx p s m args meth c Θ D cl Ts Rn k A H0) (hR : f'.2.2.2.1 - n0 ≤ R.cells ∧ f'.2.2.2.2.1 - s0 ≤ R.slots) (hdg : decode (mj_cc Θ k) pc = .ok (.anewarray ix, len)) (h : mj_i Θ k (.anewarray ix) len pc L st σ = some (.inl f')) (kk : mj_W p l e R s m args below meth c Q D cl A H0 n0 s0 (mj_mL Θ k) f') : mj_W p l e R s m args below meth c Q D cl A H0 n0 s0 (mj_mL Θ k) (pc, L, st, σ) := by
  obtain ⟨hx, hb, hml, hown, hts, hK, hKA, hin, hA, hok⟩ := C
  have h1 := ms_if h
  clear h
  obtain ⟨rfl, h⟩ := h1
  unfold mj_anew at h
  split at h
  · next n r =>
    split at h
    · next ci hal =>
      have h1 := ms_if h
      clear h
      obtain ⟨⟨hci, hn0, hle⟩, h⟩ := h1
      obtain rfl := ms_nx h
      intro H locs ls hH hl hS hdm hn hs
      dsimp only at hn hs hH hdm hR
      have hr1 : σ.1 - n0 + 1 ≤ R.cells := by have := hR.1; simp only [mj_add] at this; omega
      have hr2 : σ.2.1 - s0 + n.toNatClampNeg ≤ R.slots := by have := hR.2; simp only [mj_add] at this; omega
      refine W.anew hx hb hown (hts _ (hok.2.2.2.1 _ _ _ hal)) (va_AO.use (hKA.2.2 ci hci).2) rfl hdg rfl hn0 (by omega) hr1 hr2 fun cA kA comp f1 f2 f3 f4 => ?_
      obtain ⟨kA', comp', k1, k2, k3, k4⟩ := (hKA.2.2 ci hci).1.2
      have hcA : cA = mj_ar Θ (2 + ci) := Option.some.inj (f1.symm.trans k4)
      subst hcA
      generalize hH1 : H.push ({ cls := mj_ar Θ (2 + ci), slots := Array.replicate n.toNatClampNeg .null, vm := .none } : Cell) = H1
      have z1 : H1.size = H.size + 1 := by rw [← hH1, Array.size_push]
      have e1 : H1[H.size]? = some (arrV (mj_ar Θ (2 + ci)) n.toNatClampNeg (fun _ => .null)) := by rw [← hH1, Array.getElem?_push_size, ← arrV_new]
      have o1 : ∀ q : Nat, q < H.size → H1[q]? = H[q]? := fun q hq => by rw [← hH1, Array.getElem?_push, if_neg (Nat.ne_of_lt hq)]
      have K := kk H1 locs ls (hH.add (n := n.toNatClampNeg) (x := .inl (mj_ar Θ (2 + ci), n.toNatClampNeg, .inr (.inr (.inr (.inr (fun _ => none)))))) (by show H1[σ.1]? = some (vp_cell _ _); rw [hH.1, vp_cell_q]; exact e1) z1 o1) hl (mj_newS hS z1 o1) (mj_dom_add hdm (by rw [hH.1]; exact hA _ hS.1)) (by show n0 ≤ σ.1 + 1; omega) (by show s0 ≤ σ.2.1 + _; omega)
      have ec : (mj_add σ n.toNatClampNeg (.inl (mj_ar Θ (2 + ci), n.toNatClampNeg, .inr (.inr (.inr (.inr (fun _ => none))))))).1 - n0 = σ.1 - n0 + 1 := by show σ.1 + 1 - n0 = _; omega
      have es : (mj_add σ n.toNatClampNeg (.inl (mj_ar Θ (2 + ci), n.toNatClampNeg, .inr (.inr (.inr (.inr (fun _ => none))))))).2.1 - s0 = σ.2.1 - s0 + n.toNatClampNeg := by show σ.2.1 + n.toNatClampNeg - s0 = _; omega
      dsimp only at K
      rw [ec, es] at K
      rw [← hH.1]
      exact K
    · cases h
  · cases h
theorem ms_new {ix : Nat} (C : mj_Cx p s m args meth c Θ D cl Ts Rn k A H0) (hR : f'.2.2.2.1 - n0 ≤ R.cells ∧ f'.2.2.2.2.1 - s0 ≤ R.slots) (hdg : decode (mj_cc Θ k) pc = .ok (.new ix, len)) (h : mj_i Θ k (.new ix) len pc L st σ = some (.inl f')) (kk : mj_W p l e R s m args below meth c Q D cl A H0 n0 s0 (mj_mL Θ k) f') : mj_W p l e R s m args below meth c Q D cl A H0 n0 s0 (mj_mL Θ k) (pc, L, st, σ) := by
  obtain ⟨hx, hb, hml, hown, hts, hK, hKA, hin, hA, hok⟩ := C
  have h1 := ms_if h
  clear h
  obtain ⟨rfl, h⟩ := h1
  unfold mj_new at h
  split at h
  · next ci hnl =>
    obtain rfl := ms_nx h
    obtain ⟨T, hc, hlk, hins, hini⟩ := hok.2.2.1 _ _ _ hnl
    obtain ⟨-, -, hin2, hpd, hnm⟩ := hok.2.1 _ _ hc
    dsimp only at hin2 hpd hnm
    have hpd2 : ∀ i, i < (mj_ty Θ ci).length → parseFieldDescriptor (T i).2.2.1 = some ((mj_ty Θ ci).getD i .int) := by
      intro i hi
      rw [hpd i hi, List.getD_eq_getElem?_getD, List.getElem?_eq_getElem hi]
      rfl
    intro H locs ls hH hl hS hdm hn hs
    dsimp only at hn hs hH hdm hR
    have hr1 : σ.1 - n0 + 1 ≤ R.cells := by have := hR.1; simp only [mj_add] at this; omega
    have hr2 : σ.2.1 - s0 + (mj_ty Θ ci).length ≤ R.slots := by have := hR.2; simp only [mj_add] at this; omega
    have hKn := hK.1 ci _ hc
    refine W.newcK hx hb hown (hts _ hlk) (hts _ hins) (hts _ hini) rfl hdg hr1 hr2 hKn.2.1 (h := H.size) rfl fun H1 kC hkC e1 z1 o1 => ?_
    have K := kk H1 locs ls (hH.add (n := (mj_ty Θ ci).length) (x := .inr (ci, (mj_ty Θ ci).map defaultValue)) (by
      rw [hH.1]
      refine ⟨_, hc, (u_born _ hts hin2 hKn hkC e1 hpd2).to (fun i hi => ?_)⟩
      have hi2 : i < (mj_ty Θ ci).length := hi
      simp [vp_V, List.getD_eq_getElem?_getD, List.getElem?_eq_getElem hi2]) z1 o1) hl (mj_newS hS z1 o1) (mj_dom_add hdm (by rw [hH.1]; exact hA _ hS.1)) (by show n0 ≤ σ.1 + 1; omega) (by show s0 ≤ σ.2.1 + _; omega)
    have ec : (mj_add σ (mj_ty Θ ci).length (.inr (ci, (mj_ty Θ ci).map defaultValue))).1 - n0 = σ.1 - n0 + 1 := by show σ.1 + 1 - n0 = _; omega
    have es : (mj_add σ (mj_ty Θ ci).length (.inr (ci, (mj_ty Θ ci).map defaultValue))).2.1 - s0 = σ.2.1 - s0 + (mj_ty Θ ci).length := by show σ.2.1 + (mj_ty Θ ci).length - s0 = _; omega
    dsimp only at K
    rw [ec, es] at K
    rw [← hH.1]
    exact K
  · split at h
    · split at h
      · cases h
      · cases h
    · cases h
end MJG
