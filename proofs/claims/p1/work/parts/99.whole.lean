section LG
variable {p : Program} {l : Launch} {e : Env} {s : State} {m : MethodId} {below : List Frame} {meth : Method} {c : Code} {ar : Nat → ClassId} {D : va_G} {b L B n : Nat} {cL : ClassId} {xs : Nat → Int32}
theorem fa_ge {t : tg_T} {x : va_E} (h : c0_h ar B n t = some x) : B ≤ fa B n t := by
  obtain ⟨k, i⟩ := t
  by_cases hk : k < 30
  · clear h
    have h3 : k = 0 ∨ k = 1 ∨ k = 2 ∨ k = 3 ∨ k = 4 ∨ k = 5 ∨ k = 6 ∨ k = 7 ∨ k = 8 ∨ k = 9 ∨ k = 10 ∨ k = 11 ∨ k = 12 ∨ k = 13 ∨ k = 14 ∨ k = 15 ∨ k = 16 ∨ k = 17 ∨ k = 18 ∨ k = 19 ∨ k = 20 ∨ k = 21 ∨ k = 22 ∨ k = 23 ∨ k = 24 ∨ k = 25 ∨ k = 26 ∨ k = 27 ∨ k = 28 ∨ k = 29 := by omega
    rcases h3 with rfl | rfl | rfl | rfl | rfl | rfl | rfl | rfl | rfl | rfl | rfl | rfl | rfl | rfl | rfl | rfl | rfl | rfl | rfl | rfl | rfl | rfl | rfl | rfl | rfl | rfl | rfl | rfl | rfl | rfl <;> first | (simp only [fa]; omega) | (simp only [fa]; done) | exact Nat.le_refl _
  · exfalso
    have h3 : k = 30 ∨ k = 31 ∨ k = 32 ∨ k = 33 ∨ 34 ≤ k := by omega
    rcases h3 with rfl | rfl | rfl | rfl | h34
    · rw [show c0_h ar B n (30, i) = none by simp [cs_h, cs_c, cs_0]] at h
      cases h
    · rw [show c0_h ar B n (31, i) = none by simp [cs_h, cs_c, cs_0]] at h
      cases h
    · rw [show c0_h ar B n (32, i) = none by simp [cs_h, cs_c, cs_0]] at h
      cases h
    · rw [show c0_h ar B n (33, i) = none by simp [cs_h, cs_c, cs_0]] at h
      cases h
    · obtain ⟨z, rfl⟩ : ∃ z, k = z + 34 := ⟨k - 34, by omega⟩
      rw [show c0_h ar B n (z + 34, i) = none from rfl] at h
      cases h
theorem mt_le (hn : n = 2 ∨ n = 3 ∨ n = 4 ∨ n = 5) : mt_ B n + 6 ≤ B + 260 ∧ B + 1 ≤ mt_ B n + 6 ∧ c0_q n ≤ 20000 ∧ 6 ≤ c0_q n := by
  rcases hn with rfl | rfl | rfl | rfl <;> (unfold mt_ mb_ c0_q; omega)
theorem lk_new9 : Cond.methodLink RL 61 (tb_Y 41) ∈ tb_W := by decide +kernel
theorem lk_new10 : Cond.methodLink RL 66 (tb_Y 87) ∈ tb_W := by decide +kernel
theorem dm_add {z k : Nat} {x y : va_E} {q : Nat} (h : (mj_add (z, 0, fun _ => none) k x).2.2 q = some y) : q = z := by
  have h1 : (if q = z then some x else none) = some y := h
  by_cases hq : q = z
  · exact hq
  · rw [if_neg hq] at h1
    cases h1
set_option maxHeartbeats 4000000 in
theorem whole_1 (hL : L ≤ 5) (X : lb_X p l s m meth c b L xs ar D cL) (hfc : s.vm.findClass ("[" ++ FieldType.long.toString) = some cL) : W p l e room_1 s m #[Value.ref b] below meth c s.heap [] 0 0 (lw_Z below #[Value.ref b] s) (entryFrame m ([Value.ref b] : List Value).toArray 7) := by
  have X0 := X
  obtain ⟨⟨hx, hb, hml, hown, htw, hK, hKA, hNs⟩, hret, hlocks, hX, hbl, hts, hXP, hNc, hLo, hlt⟩ := X0
  have C := X.1
  have hal : Cond.arrayClass FieldType.long ∈ lw_tbl := by decide +kernel
  have hl := lv_entry ([.ref b]) (n := 7) (Nat.le_of_ble_eq_true rfl)
  rw [lg_entry_eq]
  generalize (lg_sl ([.ref b]) ++ List.replicate (7 - (lg_sl ([.ref b])).length) Slot.unset).toArray = ls at hl ⊢
  have hl : lv_has ls 7 [(0, .ref b)] := hl
  have hS0 : va_S (lb_A s) s.heap s.heap [] := va_S.rf
  obtain ⟨n, hn⟩ : ∃ n, n = rs_m (ce_v L xs) := ⟨_, rfl⟩
  have hn4 : n = 2 ∨ n = 3 ∨ n = 4 ∨ n = 5 := by
    rw [hn]
    exact rs_m_or _
  obtain ⟨b1, b2, b3, b4⟩ := mt_le (B := s.heap.size) hn4
  refine lw_new (ci := 9) (N := 6) (rest := []) X rfl rfl (by decide +kernel) (by decide +kernel) (by decide +kernel) dL_law_0 (rm_c (show 0 + 1 ≤ 590000 by decide)) (rm_s (show 0 + 6 ≤ 7150000 by decide)) hS0 (fun H1 hH1 hS1 z1 o1 => ?_)
  refine lv_dup hx hb dL_law_3 rfl ?_
  refine lv_aload_n hx hb dL_law_4 rfl (lv_at hl 0 rfl) ?_
  refine lv_iconst (v := 0) hx hb dL_law_5 (by decide) ?_
  refine lw_cell X hL hS1 ⟨by decide, by decide⟩ hl.1 (Nat.le_of_ble_eq_true rfl) dL_law_6 ⟨rm_c (show 0 + 1 ≤ 590000 by decide), rm_s (show 0 + 6 ≤ 7150000 by decide)⟩ ?_
  obtain ⟨⟨o9, τ⟩, hr, ho9, hT, hz, hq⟩ := C_new (ar := ar) (m := n) (σ := (s.heap.size, 0, fun _ => none)) (v := ce_v L xs) (Q := fun o' τ' => o' = .inl none ∧ tg_R (fa s.heap.size n) (c0_h ar s.heap.size n) τ' ∧ τ'.1 = mt_ s.heap.size n + 6 ∧ τ'.2.1 = 0 + c0_q n) hn (fun _ => rfl) (fun τ h1 h2 h3 => ⟨rfl, h1, h2, h3⟩)
  dsimp only at ho9 hT hz hq
  subst ho9
  refine lw_I (y := 41) (b := s.heap.size) (As := [.int (ce_v L xs)]) (rest := [.ref s.heap.size]) (A := lb_A s) (σ := mj_add (s.heap.size, 0, fun _ => none) 6 c0_d) (σ1 := τ) C hr (by decide) rfl rfl (Nat.le_of_ble_eq_true rfl) (fun w hw => by simp only [List.mem_cons, List.not_mem_nil, or_false] at hw; subst hw; rfl) lk_new9 hH1 hS1 (fun q x h => by rw [dm_add h]; exact Nat.le_refl _) (fun q h => h) ⟨Nat.le_of_ble_eq_true rfl, Nat.le_of_ble_eq_true rfl⟩ hl.1 (Nat.le_of_ble_eq_true rfl) dL_law_9 ⟨rm_c (show 0 + 1 + (τ.1 - (s.heap.size + 1)) ≤ 590000 by omega), rm_s (show 0 + 6 + (τ.2.1 - (0 + 6)) ≤ 7150000 by omega)⟩ (fun H2 locs2 hH2 hS2 hz2 hk2 => ?_)
  refine W.widen (k := 300) (n := 21000) (show 0 + 1 + (τ.1 - (s.heap.size + 1)) ≤ 300 by omega) (show 0 + 6 + (τ.2.1 - (0 + 6)) ≤ 21000 by omega) ?_
  refine lv_astore_n (lv' := [(1, .ref s.heap.size), (0, .ref b)]) hx hb dL_law_12 rfl hl (by decide) rfl (fun ls hl => ?_)
  refine lw_new (ci := 10) (N := 42) (rest := []) X rfl rfl (by decide +kernel) (by decide +kernel) (by decide +kernel) dL_law_13 (rm_c (show 300 + 1 ≤ 590000 by decide)) (rm_s (show 21000 + 42 ≤ 7150000 by decide)) hS2 (fun H3 hH3 hS3 z3 o3 => ?_)
  refine lv_dup hx hb dL_law_16 rfl ?_
  refine lv_aload_n hx hb dL_law_17 rfl (lv_at hl 1 rfl) ?_
  refine lv_iconst (v := 0) hx hb dL_law_18 (by decide) ?_
  refine lw_cell X hL hS3 ⟨by decide, by decide⟩ hl.1 (Nat.le_of_ble_eq_true rfl) dL_law_19 ⟨rm_c (show 300 + 1 ≤ 590000 by decide), rm_s (show 21000 + 42 ≤ 7150000 by decide)⟩ ?_
  have hr2 := wp_R ((R_new (ar := ar) (σ := (H2.size, 0, fun _ => none)) (v := ce_v L xs) (Q := fun o' τ' => o' = .inl none ∧ τ' = rs_st ar H2.size (H2.size + 37) (0 + 42 + rs_q ar) (rs_0 (rs_m (ce_v L xs)))) (fun _ => rfl)).mpr ⟨rfl, rfl⟩)
  rw [← hn] at hr2
  have hqq := rs_q_eq (ar := ar)
  refine lw_I (y := 87) (b := H2.size) (As := [.int (ce_v L xs)]) (rest := [.ref H2.size]) (A := lb_A s) (σ := mj_add (H2.size, 0, fun _ => none) 42 rs_d) (σ1 := rs_st ar H2.size (H2.size + 37) (0 + 42 + rs_q ar) (rs_0 n)) C hr2 (by decide) rfl rfl (Nat.le_of_ble_eq_true rfl) (fun w hw => by simp only [List.mem_cons, List.not_mem_nil, or_false] at hw; subst hw; rfl) lk_new10 hH3 hS3 (fun q x h => by rw [dm_add h]; exact hS2.1) (fun q h => h) ⟨Nat.le_of_ble_eq_true rfl, Nat.le_of_ble_eq_true rfl⟩ hl.1 (Nat.le_of_ble_eq_true rfl) dL_law_22 ⟨rm_c (show 300 + 1 + (H2.size + 37 - (H2.size + 1)) ≤ 590000 by omega), rm_s (show 21000 + 42 + (0 + 42 + rs_q ar - (0 + 42)) ≤ 7150000 by omega)⟩ (fun H4 locs4 hH4 hS4 hz4 hk4 => ?_)
  refine W.widen (k := 400) (n := 130000) (show 300 + 1 + (H2.size + 37 - (H2.size + 1)) ≤ 400 by omega) (show 21000 + 42 + (0 + 42 + rs_q ar - (0 + 42)) ≤ 130000 by omega) ?_
  refine lv_astore_n (lv' := [(2, .ref H2.size), (1, .ref s.heap.size), (0, .ref b)]) hx hb dL_law_25 rfl hl (by decide) rfl (fun ls hl => ?_)
  refine lv_iconst (v := 1) hx hb dL_law_26 (by decide) ?_
  refine va_newaK (N := 1) (atype := .long) hx hb (show (Cond.arrayClass FieldType.long).before #[Value.ref b] s = true from hts (.arrayClass .long) hal) rfl dL_law_27 rfl (by decide) (by decide) (show 1 * 8 ≤ 536870912 by omega) (rm_c (show 400 + 1 ≤ 590000 by decide)) (rm_s (show 130000 + 1 ≤ 7150000 by decide)) (h := H4.size) rfl fun H5 cA e5 z5 o5 hAr hNm => ?_
  have hNm' : s.vm.findClass ("[" ++ FieldType.long.toString) = some cA := hNm
  obtain rfl : cA = cL := Option.some.inj (hNm'.symm.trans hfc)
  refine lv_astore_n (lv' := [(3, .ref H4.size), (2, .ref H2.size), (1, .ref s.heap.size), (0, .ref b)]) hx hb dL_law_29 rfl hl (by decide) rfl (fun ls hl => ?_)
  refine lv_iconst (v := 1) hx hb dL_law_30 (by decide) ?_
  refine lv_istore (lv' := [(4, .int 1), (3, .ref H4.size), (2, .ref H2.size), (1, .ref s.heap.size), (0, .ref b)]) hx hb dL_law_31 hl (by decide) rfl (fun ls hl => ?_)
  have hS5 := mj_newS hS4 z5 o5
  have h24 : H2.size + 37 = H4.size := hH4.1
  have hkc : ∀ q : Nat, q < H2.size → H5[q]? = H2[q]? := fun q hq => by
    rw [o5 q (by omega), hk4 q (by omega) (fun ha => ?_), o3 q hq]
    rcases ha with ⟨x, hx⟩ | ha
    · have := dm_add hx
      omega
    · have ha' : H2.size + 1 ≤ q := ha
      omega
  have hσ : ∀ (a : Nat) (x : va_E), (if s.heap.size ≤ a then τ.2.2 a else none) = some x → s.heap.size ≤ a ∧ τ.2.2 a = some x := by
    intro a x h
    by_cases ha : s.heap.size ≤ a
    · rw [if_pos ha] at h
      exact ⟨ha, h⟩
    · rw [if_neg ha] at h
      cases h
  have hc5 : (400 : Nat) + 1 ≤ 500000 := by decide
  have hs5 : (130000 : Nat) + 1 ≤ 7000000 := by decide
  by_cases h5 : L = 5
  · subst h5
    refine lb_loop (A := fa s.heap.size n) (B := H2.size) (o := H4.size) (n := n) (σ := (H5.size, 0, fun a => if s.heap.size ≤ a then τ.2.2 a else none)) X ⟨⟨hS5, hS2.1, ⟨rfl, fun a x hx => (hH4.2 a x hx).kept (o5 a (hH4.2 a x hx).lt)⟩, by omega, by omega⟩, ⟨rfl, fun a x hx => ?_⟩, fun a x hx => ?_, ⟨_, e5⟩⟩ ⟨fun t x h => ?_, hT.2.1, fun t x h => ?_⟩ hn4 (lv_sub hl [4, 3, 2, 1, 0] rfl) hc5 hs5
    · obtain ⟨-, h2⟩ := hσ a x hx
      exact (hH2.2 a x h2).kept (hkc a (hH2.2 a x h2).lt)
    · obtain ⟨h1, h2⟩ := hσ a x hx
      exact ⟨h1, (hH2.2 a x h2).lt⟩
    · show (if s.heap.size ≤ fa s.heap.size n t then τ.2.2 (fa s.heap.size n t) else none) = some x
      rw [if_pos (fa_ge h)]
      exact hT.1 t x h
    · show fa s.heap.size n t < H5.size
      have h1 := hT.2.2 t x h
      have h2 : τ.1 = H2.size := hH2.1
      omega
  · refine lb_out X hS5 (lv_sub hl [0, 4] rfl) ?_ (by decide) (by decide)
    have h3 : L = 0 ∨ L = 1 ∨ L = 2 ∨ L = 3 ∨ L = 4 := by omega
    rcases h3 with rfl | rfl | rfl | rfl | rfl <;> decide
theorem whole_start (l : Launch) (hlt : l.stackTraces = false) (hL : L ≤ 5) (C0 : lw_At p s m meth c b L xs) : W p l e room_1 s m #[Value.ref b] below meth c s.heap [] 0 0 (lw_Z below #[Value.ref b] s) (entryFrame m ([Value.ref b] : List Value).toArray 7) := by
  obtain ⟨hx, hb, hret, hml, hown, hts, hX, hbl, hlocks, hgv⟩ := C0
  obtain ⟨D, hK⟩ := lw_K hts
  obtain ⟨ar, hKA⟩ := lw_KA hts
  obtain ⟨cL, hLo, hfc⟩ := arr_of (hts (.arrayClass .long) (by decide +kernel))
  exact whole_1 hL ⟨⟨hx, hb, hml, hown, fun w hw => hts w (List.mem_filter.mp hw).1, hK, hKA, lw_N0 hts⟩, hret, hlocks, hX, hbl, hts, lw_XP0 hts hgv, lw_Nc0 hgv, hLo, hlt⟩ hfc
end LG
set_option maxHeartbeats 4000000 in
theorem lw_walk (l : Launch) (hlt : l.stackTraces = false) (b : Addr) (xs : List Int32) : MetFree l x (headSpec (Jvm.Cond.code x code maxLocals ret :: tables_1) room_1) (lw_P b xs) (fun _ _ _ _ _ => True) lw_Q := by
  refine MetFree.of_bodyS (code := code) (maxLocals := maxLocals) (ret := ret) (by decide) ?_ ?_
  · intro args s m h hn
    obtain ⟨meth, c, h1, h2, h3, h4, h5, h6, -, -⟩ := Cond.code_spec hn (atoms_spec (ws := Jvm.Cond.code x code maxLocals ret :: tables_1) h _ List.mem_cons_self)
    exact ⟨meth, c, h1, h2, h3, h4, h5, h6⟩
  · intro p e s m args below meth c s₁ B hml0 hP _
    obtain ⟨rfl, hx, hbd, hgv⟩ := hP
    obtain ⟨scr, harrAt, hlist, hof, hsmall⟩ := hx
    obtain ⟨hcb, hkn, -, -⟩ := State.arrayAt?_spec harrAt
    have hown : s.vm.findClass R_law = some m.cls := findClass_of_methodNamed B.named
    have hts0 : ∀ c ∈ (Jvm.Cond.code x code maxLocals ret :: tables_1), c.before #[Value.ref b] s = true := atoms_spec (ws := Jvm.Cond.code x code maxLocals ret :: tables_1) B.pre
    have hts : ∀ w ∈ lw_tbl, w.before #[Value.ref b] s = true := k2_hts_sels lw_privs (fun w hw => hts0 w (List.mem_cons_of_mem _ hw)) lw_privs_ok
    have hml : c.maxLocals = 7 := B.maxLocals_eq (hts0 _ List.mem_cons_self)
    have X₀ : Stand p l e room_1 s m #[Value.ref b] below meth c s₁ [] 0 0 := Stand.of_body B
    have hh0 : s₁.heap = s.heap := by rw [B.state]; rfl
    have hsz : scr.slots.size = xs.length := by rw [← Array.length_toList, hlist, List.length_map]
    have hval : ∀ j : Nat, j < xs.length → scr.slots[j]? = some (.int (xs.getD j 0)) := fun j hj => by
      rw [← Array.getElem?_toList, hlist]
      simp [hj]
    have hbl : b < s.heap.size := (Array.getElem?_eq_some_iff.mp hcb).1
    have hX : va_X b xs.length (fun j => xs.getD j 0) s s.heap := ⟨scr, hcb, hof, hkn, hsz, hval⟩
    have K : W p l e room_1 s m #[Value.ref b] below meth c s₁.heap [] 0 0 (lw_Z below #[Value.ref b] s) (entryFrame m ([Value.ref b] : List Value).toArray 7) := by
      rw [hh0]
      exact whole_start l hlt hbd ⟨B.exec, B.bytes, B.returns, hml, hown, hts, hX, hbl, B.notSynchronized, hgv⟩
    obtain ⟨t, a1, o, b1, b2, b3⟩ := K s₁ rfl X₀
    exact ⟨t, o, a1, b1, b2, b3⟩
theorem lw_pre_spec {args : Array Value} {s : State} (h : (Jvm.Cond.and given_1 narrow_1).before args s = true) (hr : rest_1_c.before args s = true) : ∃ (b : Addr) (xs : List Int32), lw_P b xs args s := by
  have hs := flat_of_before _ h
  have hq := flat_of_before _ hr
  have hc : (Cond.count 1).before args s = true := hs _ (by decide +kernel)
  have harr : (Cond.arrayOf (.arg 0) .int).before args s = true := hs _ (by decide +kernel)
  have hle : (Cond.le (.length (.arg 0)) (.int 5)).before args s = true := hs _ (by decide +kernel)
  have hlen : (Cond.isInt (.length (.arg 0))).before args s = true := hq _ (by decide +kernel)
  have hall : (Cond.all (.arg 0) (.isInt (.elem (.arg 0) (.index 0)))).before args s = true := hq _ (by decide +kernel)
  obtain ⟨b, xs, hb, hx⟩ := State.ints_of_pre rfl harr hlen hall
  have hsm : xs.length < 2 ^ 31 := hx.choose_spec.2.2.2
  have hev : (Term.length (.arg 0)).eval args s none [] s = some (.int xs.length.toInt32) := hx.length_eval hb
  have hv := Cond.le_ints hev (show (Term.int 5).eval args s none [] s = some (.int 5) from rfl)
  have hd : xs.length.toInt32 ≤ 5 := by
    simpa [Cond.before, Cond.holds, hv] using hle
  have hN : xs.length ≤ 5 := (Int32.ofNat_le_ofNat hsm (by decide)).mp (show Int32.ofNat xs.length ≤ Int32.ofNat 5 from hd)
  exact ⟨b, xs, Cond.one_arg hc (show args[0]? = some (.ref b) from hb), hx, hN, h⟩
theorem lw_comes (l : Launch) (hlt : l.stackTraces = false) : Comes l x (Jvm.Cond.code x code maxLocals ret :: tables_1) room_1 (fun tb e args s => Calls_1 tb e args s ∧ rest_1 tb e args s ∧ Pre_1 tb e args s)
    (fun _ _ args s o t => lw_Q args s o t) := by
  intro p e ha hc hk s m args below hf hfit hheap happ hpre
  obtain ⟨b, xs, hP⟩ := lw_pre_spec hpre.2.2 hpre.2.1
  obtain ⟨k, o, h1, h2, h3, hQ⟩ := lw_walk l hlt b xs p e ha hc hk s m args below hf ((Spec.applies_iff_loose hf).mp happ).1 hP trivial
  exact ⟨k, o, h1, h2, h3, hQ⟩
theorem lw_frame {s t : State} {o : Outcome} {args : Array Value} (h : Framed s o t [] room_1.cells room_1.slots) :
    Framed s o t (fieldLocs frame_1_writes args s ++ arrayLocs frame_1_arrays args s ++ staticLocs frame_1_statics s) room_1.cells room_1.slots := h
theorem lw_limb (L : Cond) (hL : ∀ (args : Array Value) (s t : State), L.after args s (.returned (some (.int 1))) t = true) :
    ArmFor flags0 classFile x code maxLocals ret World_1 tables_1 room_1 Calls_1 rest_1 Pre_1
      (fun tb e a s o t => postC L tb e a s o t ∧ Framed s o t (fieldLocs frame_1_writes a s ++ arrayLocs frame_1_arrays a s ++ staticLocs frame_1_statics s) room_1.cells room_1.slots) := by
  intro l hfl _ _ p e ha hc hk s m args below hf hfit hheap happ hpre
  obtain ⟨k, o, h1, h2, h3, rfl, hF⟩ := lw_comes l (by unfold Launch.stackTraces; rw [hfl]; decide) p e ha hc hk s m args below hf hfit hheap happ hpre
  exact ⟨k, _, h1, h2, h3, hL args s _, lw_frame hF⟩
theorem i_vc : Claimed_1_1 ∧ Claimed_1_2 := ⟨lw_limb limb_1_1 (fun args s t => by simp [limb_1_1, Cond.after, Cond.holds, Cond.value]), lw_limb limb_1_2 (fun args s t => Cond.after_iff.mpr (by
  first | (rw [show limb_1_2 = Cond.eq .result (.int 1) from rfl, Cond.eq_ints (x := 1) (y := 1) rfl rfl]; simp; done) | (simp [limb_1_2, Cond.value, Term.eval]; done)))⟩
