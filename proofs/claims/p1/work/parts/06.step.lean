section MJI
variable {p : Program} {l : Launch} {e : Env} {R : Room} {s : State} {m : MethodId} {args : Array Value} {below : List Frame} {meth : Method} {c : Code} {Q : State → Prop} {Θ : mj_T} {D : va_G} {cl : List vw_C} {Ts : List Cond} {Rn : Nat → String} {k : Nat} {A : Nat → Prop} {H0 : Heap} {n0 s0 : Nat} {pc len : Nat} {L : List (Option Value)} {st : List Value} {σ : mj_S} {f' : mj_F}
theorem mj_ones : ∀ r : List Value, (r.map (fun _ => 1)).sum = r.length
  | [] => rfl
  | _ :: r => by
    rw [List.map_cons, List.sum_cons, mj_ones r, List.length_cons]
    omega
theorem mj_cat (r : List Value) (h : (r.map fun v => v.category) = r.map (fun _ => 1)) : (r.map fun v => v.category).sum = r.length := by
  rw [h]
  exact mj_ones r
theorem mj_call_no {d y q : Nat} (h : mj_call Θ d k y q L st σ = some (.inl f')) : False := by
  unfold mj_call at h
  have h1 := (ms_if h).2
  cases h1
theorem ms_invokespecial {ix : Nat} (C : mj_Cx p s m args meth c Θ D cl Ts Rn k A H0) (hF : R.frames = mj_fr Θ k ∧ R.locals = mj_lo Θ k) (hdg : decode (mj_cc Θ k) pc = .ok (.invokespecial ix, len)) (h : mj_i Θ k (.invokespecial ix) len pc L st σ = some (.inl f')) (kk : mj_W p l e R s m args below meth c Q D cl A H0 n0 s0 (mj_mL Θ k) f') : mj_W p l e R s m args below meth c Q D cl A H0 n0 s0 (mj_mL Θ k) (pc, L, st, σ) := by
  obtain ⟨hx, hb, hml, hown, hts, hK, hKA, hin, hA, hok⟩ := C
  have h1 := ms_if h
  clear h
  obtain ⟨rfl, h⟩ := h1
  revert h
  split
  · next hm =>
    split
    · next a r =>
      intro h
      have h1 := ms_if h
      clear h
      obtain ⟨⟨hc, hl8, hf1, hl20⟩, h⟩ := h1
      obtain rfl := ms_nx h
      obtain ⟨w1, w2, w3⟩ := hok.2.2.2.2.2.1 _ _ hm
      intro H locs ls hH hl hS hdm hn hs
      refine W.objInit hx hb hown (hts _ w1) (hts _ w2) (hts _ w3) rfl (by show ls.size = c.maxLocals; rw [hml]; exact hl.2.1) rfl hdg (by rw [hF.1]; exact hf1) ?_ (kk H locs ls hH hl hS hdm hn hs)
      show 2 * 0 + (r.map fun v => v.category).sum + 12 ≤ R.locals
      rw [mj_cat r hc, hF.2]
      omega
    · intro h
      cases h
  · intro h
    exact (mj_call_no h).elim
  · intro h
    cases h
theorem mj_cpyW {H : Heap} {locs : List Loc} {cells slots : Nat} {ls : Array Slot} {rest : List Value} {ix a b : Nat} {n0' n1 : Nat} {f g : Nat → Int32} {sp dp n : Int32} (C : mj_Cx p s m args meth c Θ D cl Ts Rn k A H0) (hm : mj_ml Θ (mj_o Θ k) ix = some 999) (ha : va_at D cl (a, .inl (mj_ar Θ 0, n0', .inl f)) H) (hb' : va_at D cl (b, .inl (mj_ar Θ 0, n1, .inl g)) H) (h1 : ¬ sp < 0) (h2 : ¬ dp < 0) (h3 : ¬ n < 0) (h4 : sp.toNatClampNeg + n.toNatClampNeg ≤ n0') (h5 : dp.toNatClampNeg + n.toNatClampNeg ≤ n1) (hAb : A b) (hS : va_S A H0 H locs) (hls : ls.size = mj_mL Θ k) (hfr : 1 ≤ R.frames) (hlo : (rest.map fun v => v.category).sum + 18 ≤ R.locals) (hdg : decode (mj_cc Θ k) pc = .ok (.invokestatic ix, 3))
    (kk : ∀ (H1 : Heap) (locs1 : List Loc), va_at D cl (b, .inl (mj_ar Θ 0, n1, .inl (va_cpy f g sp.toNatClampNeg dp.toNatClampNeg n.toNatClampNeg))) H1 → H1.size = H.size → (∀ q, q ≠ b → H1[q]? = H[q]?) → va_S A H0 H1 locs1 → W p l e R s m args below meth c H1 locs1 cells slots Q (F0 m (pc + 3) ls rest)) : W p l e R s m args below meth c H locs cells slots Q (F0 m pc ls (.int n :: .int dp :: .ref b :: .int sp :: .ref a :: rest)) := by
  obtain ⟨hx, hb, hml, hown, hts, hK, hKA, hin, hA, hok⟩ := C
  obtain ⟨w1, w2, w3, w4⟩ := hok.2.2.2.2.2.2.1 _ _ hm
  have nn : ∀ z : Int32, ¬ z < 0 → z.toInt = (z.toNatClampNeg : Int) := by
    intro z hz
    have hz0 : (0 : Int) ≤ z.toInt := by
      have := Int32.not_lt.mp hz
      simpa using Int32.le_iff_toInt_le.mp this
    show z.toInt = ((z.toInt.toNat : Nat) : Int)
    omega
  have ha : H[a]? = some (arrV (mj_ar Θ 0) n0' (fun j => .int (f j))) := ha
  have hb' : H[b]? = some (arrV (mj_ar Θ 0) n1 (fun j => .int (g j))) := hb'
  obtain ⟨-, k0, hk0, cm0, hkk0⟩ := hKA.1.1 n0' (fun j => .int (f j))
  intro T hT X
  obtain ⟨vm', X', step⟩ := X.arraycopy hx hown (hts _ w1) (hts _ w2) (hts _ w3) (hts _ w4) (src := a) (dst := b) (srcPos := sp) (destPos := dp) (n := n) (cs := arrV (mj_ar Θ 0) n0' (fun j => .int (f j))) (cd := arrV (mj_ar Θ 0) n1 (fun j => .int (g j))) (by rw [hT]; exact ha) (by rw [hT]; exact hb')
    (fun _ h => by cases h) (fun _ h => by cases h) (fun h => by cases h) (fun h => by cases h) hk0 hk0 hkk0 hkk0 (by decide) h1 h2 h3
    (by rw [nn sp h1, nn n h3, arrV_size]; omega) (by rw [nn dp h2, nn n h3, arrV_size]; omega)
    (fun vm₁ _ i hi => by
      have e : (arrV (mj_ar Θ 0) n0' (fun j => Value.int (f j))).slots.getD (sp.toNatClampNeg + i) .null = .int (f (sp.toNatClampNeg + i)) := by
        rw [Array.getD_eq_getD_getElem?, arrV_read _ _ (by omega)]
        rfl
      rw [e]
      exact ⟨rfl, by simp [State.takes]⟩)
    (g := F0 m pc ls (.int n :: .int dp :: .ref b :: .int sp :: .ref a :: rest)) rfl (by show ls.size = c.maxLocals; rw [hml]; exact hls) (rest := rest) rfl (by rw [hb]; exact hdg) hfr (by show 2 * 0 + _ + _ ≤ _; have : nativeFrameWords "java/lang/System" "arraycopy" 5 = 7 := (by decide); omega)
  have e1 : copied (arrV (mj_ar Θ 0) n0' (fun j => Value.int (f j))) (arrV (mj_ar Θ 0) n1 (fun j => Value.int (g j))) sp dp n = arrV (mj_ar Θ 0) n1 (fun j => .int (va_cpy f g sp.toNatClampNeg dp.toNatClampNeg n.toNatClampNeg j)) := va_copied (fun z => .int z) _ _ f g h4
  rw [e1] at X' step
  have hlt : b < H.size := (Array.getElem?_eq_some_iff.mp hb').1
  generalize hcell : arrV (mj_ar Θ 0) n1 (fun j => Value.int (va_cpy f g sp.toNatClampNeg dp.toNatClampNeg n.toNatClampNeg j)) = cell at X' step
  have hheap : ((T.setVm vm').setCell b cell).heap = H.setIfInBounds b cell := by rw [← hT]; rfl
  have oq : ∀ q : Nat, q ≠ b → (H.setIfInBounds b cell)[q]? = H[q]? := fun q hq => by simp [Array.getElem?_setIfInBounds, Ne.symm hq]
  have eb : (H.setIfInBounds b cell)[b]? = some cell := by simp [Array.getElem?_setIfInBounds, hlt]
  obtain ⟨t, a1, b1⟩ := kk (H.setIfInBounds b cell) _ (by show _ = some (vp_cell _ _); rw [eb, vp_cell_i, hcell]) (by simp) oq ⟨by simp; exact hS.1, fun q g1 g2 => by
      rw [oq q (fun e => g2 (by rw [e]; exact hAb))]
      exact hS.2.1 q g1 g2, fun q hq => by
      rcases List.mem_append.mp hq with h | h
      · exact hS.2.2 q h
      · obtain ⟨z, -, hz⟩ := List.mem_map.mp h
        rw [← hz]
        exact hAb⟩ _ hheap X'
  exact ⟨t, step t a1, b1⟩
theorem ms_mm {g : Int32 → Int32 → Int32} {q : Nat} (h : mj_mm g q L st σ = some (.inl f')) : ∃ (x y : Int32) (r : List Value), st = .int y :: .int x :: r ∧ (r.map fun v => v.category).sum ≤ 8 ∧ f' = (q, L, .int (g x y) :: r, σ) := by
  unfold mj_mm at h
  split at h
  · next y x r => exact ⟨x, y, r, rfl, by rw [mj_cat r (ms_if h).1.1]; exact (ms_if h).1.2, ms_nx (ms_if h).2⟩
  · cases h
theorem ms_invokestatic {ix : Nat} (C : mj_Cx p s m args meth c Θ D cl Ts Rn k A H0) (hR : f'.2.2.2.1 - n0 ≤ R.cells ∧ f'.2.2.2.2.1 - s0 ≤ R.slots) (hF : R.frames = mj_fr Θ k ∧ R.locals = mj_lo Θ k) (hdg : decode (mj_cc Θ k) pc = .ok (.invokestatic ix, len)) (h : mj_i Θ k (.invokestatic ix) len pc L st σ = some (.inl f')) (kk : mj_W p l e R s m args below meth c Q D cl A H0 n0 s0 (mj_mL Θ k) f') : mj_W p l e R s m args below meth c Q D cl A H0 n0 s0 (mj_mL Θ k) (pc, L, st, σ) := by
  have h1 := ms_if h
  clear h
  obtain ⟨rfl, h⟩ := h1
  revert h
  split
  · next hm =>
    intro h
    have h1 := ms_if h
    clear h
    obtain ⟨⟨hf1, hl1⟩, h⟩ := h1
    unfold mj_cpy at h
    split at h
    · next n dp b sp a r =>
      split at h
      · next c0 m0 f ha =>
        split at h
        · next c1 m1 g hb' =>
          have h1 := ms_if h
          clear h
          obtain ⟨⟨rfl, rfl, hab, h1, h2, h3, h4, h5, hc, hr8⟩, h⟩ := h1
          obtain rfl := ms_nx h
          intro H locs ls hH hl hS hdm hn hs
          refine mj_cpyW C hm (hH.2 a _ ha) (hH.2 b _ hb') h1 h2 h3 h4 h5 (hdm b _ hb') hS hl.2.1 (by rw [hF.1]; exact hf1) (by rw [mj_cat r hc, hF.2]; omega) hdg (fun H1 locs1 e1 e2 e3 hS1 => ?_)
          exact kk H1 locs1 ls (hH.up e1 e2 e3) hl hS1 (mj_dom_up hdm (hdm b _ hb')) hn hs
        · cases h
      · cases h
    · cases h
  · next hm =>
    intro h
    have h1 := ms_if h
    clear h
    obtain ⟨⟨hf1, hl1⟩, h⟩ := h1
    obtain ⟨x, y, r, rfl, hr8, rfl⟩ := ms_mm h
    obtain ⟨hx, hb, hml, hown, hts, hK, hKA, hin, hA, hok⟩ := C
    obtain ⟨w1, w2, w3, w4⟩ := hok.2.2.2.2.2.2.2.2.2.1 _ _ hm
    intro H locs ls hH hl hS hdm hn hs
    exact va_mmax hx hb (hml.trans hl.2.1.symm) hown (hts _ w1) (hts _ w2) (hts _ w3) (hts _ w4) (by rw [hF.1]; exact hf1) (by rw [hF.2]; omega) hR.1 hR.2 hdg (kk H locs ls hH hl hS hdm hn hs)
  · next hm =>
    intro h
    have h1 := ms_if h
    clear h
    obtain ⟨⟨hf1, hl1⟩, h⟩ := h1
    obtain ⟨x, y, r, rfl, hr8, rfl⟩ := ms_mm h
    obtain ⟨hx, hb, hml, hown, hts, hK, hKA, hin, hA, hok⟩ := C
    obtain ⟨w1, w2, w3, w4⟩ := hok.2.2.2.2.2.2.2.2.2.2 _ _ hm
    intro H locs ls hH hl hS hdm hn hs
    exact va_mmin hx hb (hml.trans hl.2.1.symm) hown (hts _ w1) (hts _ w2) (hts _ w3) (hts _ w4) (by rw [hF.1]; exact hf1) (by rw [hF.2]; omega) hR.1 hR.2 hdg (kk H locs ls hH hl hS hdm hn hs)
  · intro h
    exact (mj_call_no h).elim
  · intro h
    cases h
/-- A STEP OF THE SMALL MACHINE IS ONE OF THE MACHINE -/
theorem mj_step (C : mj_Cx p s m args meth c Θ D cl Ts Rn k A H0) (hF : R.frames = mj_fr Θ k ∧ R.locals = mj_lo Θ k) {f : mj_F} (hR : f'.2.2.2.1 - n0 ≤ R.cells ∧ f'.2.2.2.2.1 - s0 ≤ R.slots) (h : mj_st Θ k f = some (.inl f')) (kk : mj_W p l e R s m args below meth c Q D cl A H0 n0 s0 (mj_mL Θ k) f') : mj_W p l e R s m args below meth c Q D cl A H0 n0 s0 (mj_mL Θ k) f := by
  obtain ⟨pc, L, st, σ⟩ := f
  unfold mj_st at h
  dsimp only at h
  cases hdg : decode (mj_cc Θ k) pc with
  | error x => rw [hdg] at h; cases h
  | ok q =>
    obtain ⟨i, len⟩ := q
    rw [hdg] at h
    dsimp only at h
    cases i with
    | aconst_null => exact ms_aconst_null C hdg h kk
    | iconst n => exact ms_iconst C hdg h kk
    | bipush n => exact ms_bipush C hdg h kk
    | sipush n => exact ms_sipush C hdg h kk
    | ldc ix => exact ms_ldc C hdg h kk
    | ldc_w ix => exact ms_ldc_w C hdg h kk
    | iload_n j => exact ms_iload_n C hdg h kk
    | iload j => exact ms_iload C hdg h kk
    | aload_n j => exact ms_aload_n C hdg h kk
    | aload j => exact ms_aload C hdg h kk
    | istore_n j => exact ms_istore_n C hdg h kk
    | istore j => exact ms_istore C hdg h kk
    | astore_n j => exact ms_astore_n C hdg h kk
    | astore j => exact ms_astore C hdg h kk
    | iinc j n => exact ms_iinc C hdg h kk
    | iadd => exact ms_iadd C hdg h kk
    | isub => exact ms_isub C hdg h kk
    | imul => exact ms_imul C hdg h kk
    | iand => exact ms_iand C hdg h kk
    | ior => exact ms_ior C hdg h kk
    | ixor => exact ms_ixor C hdg h kk
    | idiv => exact ms_idiv C hdg h kk
    | irem => exact ms_irem C hdg h kk
    | ishl => exact ms_ishl C hdg h kk
    | ishr => exact ms_ishr C hdg h kk
    | iushr => exact ms_iushr C hdg h kk
    | dup => exact ms_dup C hdg h kk
    | dup2 => exact ms_dup2 C hdg h kk
    | pop => exact ms_pop C hdg h kk
    | goto off => exact ms_goto C hdg h kk
    | ifCond cn off => exact ms_ifCond C hdg h kk
    | if_icmp cn off => exact ms_if_icmp C hdg h kk
    | ifnull off => exact ms_ifnull C hdg h kk
    | ifnonnull off => exact ms_ifnonnull C hdg h kk
    | tableswitch dflt lo hi offs => exact ms_tableswitch C hdg h kk
    | getfield ix => exact ms_getfield C hdg h kk
    | putfield ix => exact ms_putfield C hdg h kk
    | iaload => exact ms_iaload C hdg h kk
    | baload => exact ms_baload C hdg h kk
    | aaload => exact ms_aaload C hdg h kk
    | iastore => exact ms_iastore C hdg h kk
    | bastore => exact ms_bastore C hdg h kk
    | aastore => exact ms_aastore C hdg h kk
    | arraylength => exact ms_arraylength C hdg h kk
    | newarray t => exact ms_newarray C hR hdg h kk
    | anewarray ix => exact ms_anewarray C hR hdg h kk
    | new ix => exact ms_new C hR hdg h kk
    | invokespecial ix => exact ms_invokespecial C hF hdg h kk
    | invokestatic ix => exact ms_invokestatic C hR hF hdg h kk
    | invokevirtual ix =>
      have h1 := (ms_if h).2
      revert h1
      split
      · intro h1
        exact (mj_call_no h1).elim
      · intro h1
        cases h1
    | ireturn =>
      have h1 := (ms_if h).2
      revert h1
      split
      · intro h1
        have h2 := (ms_if h1).2
        cases h2
      · intro h1
        cases h1
    | areturn =>
      have h1 := (ms_if h).2
      revert h1
      split
      · intro h1
        have h2 := (ms_if h1).2
        cases h2
      · intro h1
        have h2 := (ms_if h1).2
        cases h2
      · intro h1
        cases h1
    | return_ =>
      have h1 := (ms_if h).2
      revert h1
      split
      · intro h1
        have h2 := (ms_if h1).2
        cases h2
      · intro h1
        cases h1
    | _ => cases h
end MJI
