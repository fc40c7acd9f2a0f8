section LO2
variable {p : Program} {l : Launch} {e : Env} {s : State} {m : MethodId} {below : List Frame} {meth : Method} {c : Code} {H : Heap} {locs : List Loc} {cells slots : Nat} {Q : State → Prop} {ls : Array Slot} {ar : Nat → ClassId} {D : va_G} {σ σ1 τ : mj_S} {A : tg_T → Nat} {cs : cs_S} {W1 U1 W2 : List Nat} {b a B o n i L : Nat} {cL : ClassId} {xs : Nat → Int32} {s0 s' : rs_S} {rest : List Value}
theorem lg_cmp_self {x : Int64} : lg_cmp x x = 0 := by
  unfold lg_cmp
  rw [if_neg (fun h => absurd h (Int64.lt_irrefl)), if_pos rfl]
theorem wp_R {k : Nat} {f : mj_F} {r : Option Value ⊕ String} {τ : mj_S} (h : mj_wp (tb ar) k f (fun o' τ' => o' = r ∧ τ' = τ)) : mj_R (tb ar) k f (r, τ) := by
  obtain ⟨⟨o', τ'⟩, h1, h2, h3⟩ := h
  dsimp only at h2 h3
  subst h2
  subst h3
  exact h1
theorem lk_thrown : Cond.methodLink RL 95 (tb_Y 88) ∈ tb_W := by decide +kernel
/-- behind both calls of crash: what was thrown, what was answered -/
theorem lb_tail2 {k v : Int32} (X : lb_X p l s m meth c b L xs ar D cL) (hi : i + 4 ≤ L) (hL : L ≤ 2049) (Y : lb_Y s ar D cL B o s' σ H locs) (I : ct_I ar A cs σ W1 [] U1 []) (ha : A (0, 0) = a ∧ cs.1 = n) (I' : rs_I s' n W2) (hfl : ∀ j, j < 2 * n - 1 → (cs_v cs 9 j 1 = 0 ↔ s'.2 1 j = 0)) (hc : cells ≤ 500 + ct_1 cs + (i + 4)) (hs : slots ≤ 131000 + ct_2 cs + 6 * (i + 4)) (hk : s'.1 0 = k) (hout : k = 0 → wr_K cL o v.toInt64 H) (hl : lv_has ls 7 ((5, .int k) :: [(0, .ref b), (1, .ref a), (2, .ref B), (3, .ref o), (4, .int (nI i))])) (kk : ∀ (H1 : Heap) (locs1 : List Loc) (c1 s1 : Nat) (ls1 : Array Slot), lp_K s ar D cL B o a n (i + 4) H1 locs1 c1 s1 → lv_has ls1 7 [(0, .ref b), (1, .ref a), (2, .ref B), (3, .ref o), (4, .int (nI i))] → W p l e room_1 s m #[Value.ref b] below meth c H1 locs1 c1 s1 Q (F0 m 637 ls1 [])) : W p l e room_1 s m #[Value.ref b] below meth c H locs cells slots Q (F0 m 366 ls [.int v]) := by
  have hLo := X.2.2.2.2.2.2.2.2.1
  obtain ⟨hx, hb, -⟩ := X.1
  obtain ⟨rm1, rm2⟩ := ct_rm I
  refine lv_istore (lv' := (6, .int v) :: (5, .int k) :: [(0, .ref b), (1, .ref a), (2, .ref B), (3, .ref o), (4, .int (nI i))]) hx hb dL_law_366 hl (by decide) rfl (fun ls hl => ?_)
  refine lv_aload_n hx hb dL_law_368 rfl (lv_at hl 4 rfl) ?_
  refine lb_VY (kr := 88) (As := []) (v := some (.int (s'.1 0))) (s0 := s') (s' := s') (rest := []) X Y (wp_R (R_thrown.mpr ⟨rfl, rfl⟩)) (by decide) rfl rfl rfl (Nat.le_of_ble_eq_true rfl) (fun w hw => by cases hw) lk_thrown ⟨Nat.le_of_ble_eq_true rfl, Nat.le_of_ble_eq_true rfl⟩ hl.1 (Nat.le_of_ble_eq_true rfl) dL_law_369 ⟨rm_c (show cells ≤ 590000 by omega), rm_s (show slots ≤ 7150000 by omega)⟩ (fun H1 locs1 Y1 ho => ?_)
  have hfin : W p l e room_1 s m #[Value.ref b] below meth c H1 locs1 cells slots Q (F0 m 396 ls []) := lv_goto (tgt := 637) hx hb dL_law_396 (by decide) (kk H1 locs1 cells slots ls ⟨σ, A, cs, W1, U1, s', W2, Y1, I, ha, I', hfl, hc, hs⟩ (lv_sub hl [2, 3, 4, 5, 6] rfl))
  refine lv_iload hx hb dL_law_372 (lv_at hl 1 rfl) ?_
  refine lv_icmp_eq (tgt := 379) hx hb dL_law_374 (by decide) (fun _ => ?_) (fun h => absurd hk h)
  refine lv_iload hx hb dL_law_379 (lv_at hl 1 rfl) ?_
  refine lv_if_ne (tgt := 396) hx hb dL_law_381 (by decide) (fun _ => hfin) (fun h => ?_)
  obtain ⟨f, g1, g2⟩ := hout h
  rw [← ho] at g1
  refine lv_aload_n hx hb dL_law_384 rfl (lv_at hl 5 rfl) ?_
  refine lv_iconst (v := 0) hx hb dL_law_385 (by decide) ?_
  refine W.lald (v := .long v.toInt64) hx hb g1 (hLo 1 f) (fun q => by cases q) (by show ¬ ((0 : Int32) < 0 ∨ (arrV _ _ _).slots.size ≤ _); rw [arrV_size]; decide) (by show (arrV _ _ _).slots[(0 : Int32).toNatClampNeg]? = _; rw [arrV_read _ _ (show (0 : Int32).toNatClampNeg < 1 by decide)]; exact congrArg some g2) rfl rfl dL_law_386 ?_
  refine lv_iload hx hb dL_law_387 (lv_at hl 0 rfl) ?_
  refine lv_i2l (v := v.toInt64) hx hb dL_law_389 rfl ?_
  refine W.lcmp hx hb dL_law_390 ?_
  rw [lg_cmp_self]
  exact lv_if_eq (tgt := 396) hx hb dL_law_391 (by rfl) (fun _ => hfin) (fun h => absurd rfl h)
/-- crash in the class: who crashed is another one -/
theorem C_crashI {A : tg_T → Nat} {σ : mj_S} {x : Nat} {bb : Int32} {Q : (Option Value ⊕ String) → mj_S → Prop} (I : ct_I ar A cs σ W1 [] U1 []) (hx : x < 2 * cs.1 - 1) (hb : bb = 0 ∨ bb = 1) (hQ : ∀ cs' τ, ct_I ar A cs' τ W1 [] U1 [] → cs_n σ τ → (cs'.1 = cs.1 ∧ ct_1 cs' = ct_1 cs ∧ ct_2 cs' = ct_2 cs) → (∀ j, cs_v cs' 9 j 1 = if j = x then bb else cs_v cs 9 j 1) → Q (.inl (some (.int (if cs_v cs 9 x 1 = 0 then 0 else 1)))) τ) : mj_wp (tb ar) 49 (mj_en (tb ar) 49 [.ref (A (0, 0)), .int (nI x), .int bb] σ) Q := by
  refine C_crash I.1 I.2.1 hx hb (fun τ hn hτ => ?_)
  have key : ∀ cs', ((cs' = cs_u cs 9 x (upd (cs_v cs 9 x) 1 bb)) ∨ (cs' = cs_end (cs_u cs 9 x (upd (cs_v cs 9 x) 1 bb)) x)) → tg_R A (cs_h ar A cs') τ → Q (.inl (some (.int (if cs_v cs 9 x 1 = 0 then 0 else 1)))) τ := fun cs' hc h => by
    have hR1 : ct_R (cs_u cs 9 x (upd (cs_v cs 9 x) 1 bb)) := R_cu I.2.2.2 trivial
    have h9 : ∀ j, cs_v (cs_u cs 9 x (upd (cs_v cs 9 x) 1 bb)) 9 j 1 = if j = x then bb else cs_v cs 9 j 1 := fun j => by
      by_cases e : j = x
      · rw [if_pos e, e, cs_u_eq, w_set_at]
      · rw [if_neg e, cs_u_ne (fun q => e q.2)]
    have hB1 : cs_B (cs_u cs 9 x (upd (cs_v cs 9 x) 1 bb)) := I.2.1
    have hP1 : ct_P (cs_u cs 9 x (upd (cs_v cs 9 x) 1 bb)) W1 [] U1 [] := P_of I.2.2.1 rfl rfl (fun k i hk => cs_u_ne (by omega))
    rcases hc with rfl | rfl
    · exact hQ _ τ ⟨h, hB1, hP1, hR1⟩ hn ⟨rfl, rfl, rfl⟩ h9
    · have q : ct_q (cs_u cs 9 x (upd (cs_v cs 9 x) 1 bb)) (cs_end (cs_u cs 9 x (upd (cs_v cs 9 x) 1 bb)) x) := end_q
      refine hQ _ τ ⟨h, B_q hB1 q, P_of hP1 q.2.1 q.2.2.2.1 (fun k i hk => q.2.2.2.2.1 k i (Or.inr hk)), end_R hR1⟩ hn ⟨q.1, ?_, ?_⟩ (fun j => (q.2.2.2.2.2 j).trans (h9 j))
      · unfold ct_1
        rw [q.2.1, q.2.2.1]
        rfl
      · unfold ct_2
        rw [q.2.1, q.2.2.1]
        rfl
  unfold cs_crash at hτ
  split at hτ
  · exact key _ (Or.inr rfl) hτ
  · exact key _ (Or.inl rfl) hτ
/-- crash in the reference -/
theorem rs_crI {x : Nat} {bb : Int32} (I : rs_I s0 n W2) (hx : x < 2 * n - 1) : rs_I (rs_crash (rs_w s0 0 0) x n bb) n W2 ∧ (rs_crash (rs_w s0 0 0) x n bb).1 0 = 0 ∧ ∀ j, (rs_crash (rs_w s0 0 0) x n bb).2 1 j = if j = x then bb else s0.2 1 j := by
  have I0 : rs_I (rs_w s0 0 0) n W2 := I
  unfold rs_crash
  split
  · refine ⟨⟨I0.1, J_kept I0.2.1 rfl rfl (fun u hu => by rcases hu with rfl | rfl | rfl | rfl | rfl | rfl | rfl | rfl <;> rfl), V_kept I0.2.2 rfl rfl⟩, rfl, fun j => ?_⟩
    show upd (s0.2 1) x bb j = _
    rfl
  · rename_i hh
    have hxm : x < n := Nat.lt_of_not_le (fun q => hh (Or.inr q))
    refine ⟨⟨P_kept (s := rs_w s0 0 0) I0.1 rfl (fun u a b => ?_), J_kept (J_fo I0.2.1 hxm) rfl rfl (fun u hu => by rcases hu with rfl | rfl | rfl | rfl | rfl | rfl | rfl | rfl <;> rfl), V_kept I0.2.2 rfl rfl⟩, rfl, fun j => ?_⟩
    · show (if u = 1 then _ else (rs_forget (rs_w s0 0 0) x).2 u) = s0.2 u
      rw [if_neg (by omega), fo_t (by omega)]
      rfl
    · show upd (s0.2 1) x bb j = _
      rfl
theorem lbr_crash1 (X : lb_X p l s m meth c b L xs ar D cL) (hi : i + 4 ≤ L) (hL : L ≤ 2049) (hK : lp_K s ar D cL B o a n (i + 4) H locs cells slots) (hin : ∀ N : Nat, N = 2 * n - 1 → rs_in (lb_p xs i 1) 0 (nI N - 1) = 0) (hl : lv_has ls 7 [(0, .ref b), (1, .ref a), (2, .ref B), (3, .ref o), (4, .int (nI i))]) (kk : ∀ (H1 : Heap) (locs1 : List Loc) (c1 s1 : Nat) (ls1 : Array Slot), lp_K s ar D cL B o a n (i + 4) H1 locs1 c1 s1 → lv_has ls1 7 [(0, .ref b), (1, .ref a), (2, .ref B), (3, .ref o), (4, .int (nI i))] → W p l e room_1 s m #[Value.ref b] below meth c H1 locs1 c1 s1 Q (F0 m 637 ls1 [])) : W p l e room_1 s m #[Value.ref b] below meth c H locs cells slots Q (F0 m 340 ls [.int 1]) := by
  have X0 := X
  obtain ⟨⟨hx, hb, -⟩, -, -, hX, hbl, -⟩ := X0
  obtain ⟨σ, A, cs, W1, U1, s0, W2, Y, I, ⟨ha, hn⟩, I', hfl, hc, hs⟩ := hK
  obtain ⟨rm1, rm2⟩ := ct_rm I
  have hin' : rs_in (lb_p xs i 1) 0 (s0.1 2 - 1) = 0 := by
    rw [I'.2.1.1.2]
    exact hin _ rfl
  refine lv_istore (lv' := (5, .int 1) :: [(0, .ref b), (1, .ref a), (2, .ref B), (3, .ref o), (4, .int (nI i))]) hx hb dL_law_340 hl (by decide) rfl (fun ls hl => ?_)
  refine lv_aload_n hx hb dL_law_342 rfl (lv_at hl 3 rfl) ?_
  refine lv_aload_n hx hb dL_law_343 rfl (lv_at hl 1 rfl) ?_
  refine lv_iload hx hb dL_law_344 (lv_at hl 5 rfl) ?_
  refine lv_iconst (v := 1) hx hb dL_law_346 (by decide) ?_
  refine lv_iadd hx hb dL_law_347 ?_
  refine va_sld hx hb hX hbl (lb_nA hbl) Y.1.1 (lb_in (j := 1) (by omega) (by omega)) dL_law_348 ?_
  refine lv_aload_n hx hb dL_law_349 rfl (lv_at hl 1 rfl) ?_
  refine lv_iload hx hb dL_law_350 (lv_at hl 5 rfl) ?_
  refine lv_iconst (v := 2) hx hb dL_law_352 (by decide) ?_
  refine lv_iadd hx hb dL_law_353 ?_
  refine va_sld hx hb hX hbl (lb_nA hbl) Y.1.1 (lb_in (j := 2) (by omega) (by omega)) dL_law_354 ?_
  refine lb_bool hx hb dL_law_355 dL_law_358 dL_law_359 dL_law_362 ?_
  refine lb_VY (kr := 128) (As := [.int (lb_p xs i 1), .int (lb_z (lb_p xs i 2))]) (v := some (.int 0)) (s' := rs_w s0 0 1) (rest := []) X Y (wp_R ((R_crash0 hin').mpr ⟨rfl, rfl⟩)) (by decide) rfl rfl rfl (Nat.le_of_ble_eq_true rfl) (fun w hw => by simp only [List.mem_cons, List.not_mem_nil, or_false] at hw; rcases hw with rfl | rfl <;> rfl) lkr_crash ⟨Nat.le_of_ble_eq_true rfl, Nat.le_of_ble_eq_true rfl⟩ hl.1 (Nat.le_of_ble_eq_true rfl) dL_law_363 ⟨rm_c (show cells ≤ 590000 by omega), rm_s (show slots ≤ 7150000 by omega)⟩ (fun H1 locs1 Y1 ho => ?_)
  exact lb_tail2 X hi hL Y1 I ⟨ha, hn⟩ (I_w I') hfl hc hs rfl (fun h => absurd h (show ¬ (1 : Int32) = 0 by decide)) hl kk
theorem lbr_crash0 {x : Nat} (X : lb_X p l s m meth c b L xs ar D cL) (hi : i + 4 ≤ L) (hL : L ≤ 2049) (Y : lb_Y s ar D cL B o s0 σ H locs) (I : ct_I ar A cs σ W1 [] U1 []) (ha : A (0, 0) = a ∧ cs.1 = n) (I' : rs_I s0 n W2) (hxx : x < 2 * n - 1) (hpx : lb_p xs i 1 = nI x) (hfl : ∀ j, j < 2 * n - 1 → (cs_v cs 9 j 1 = 0 ↔ (if j = x then lb_z (lb_p xs i 2) else s0.2 1 j) = 0)) (hc : cells ≤ 500 + ct_1 cs + (i + 4)) (hs : slots ≤ 131000 + ct_2 cs + 6 * (i + 4)) (hout : wr_K cL o (if s0.2 1 x = 0 then (0 : Int32) else 1).toInt64 H) (hl : lv_has ls 7 [(0, .ref b), (1, .ref a), (2, .ref B), (3, .ref o), (4, .int (nI i))]) (kk : ∀ (H1 : Heap) (locs1 : List Loc) (c1 s1 : Nat) (ls1 : Array Slot), lp_K s ar D cL B o a n (i + 4) H1 locs1 c1 s1 → lv_has ls1 7 [(0, .ref b), (1, .ref a), (2, .ref B), (3, .ref o), (4, .int (nI i))] → W p l e room_1 s m #[Value.ref b] below meth c H1 locs1 c1 s1 Q (F0 m 637 ls1 [])) : W p l e room_1 s m #[Value.ref b] below meth c H locs cells slots Q (F0 m 340 ls [.int 0]) := by
  have X0 := X
  obtain ⟨⟨hx, hb, -⟩, -, -, hX, hbl, -⟩ := X0
  obtain ⟨rm1, rm2⟩ := ct_rm I
  have hn4 := cs_n4 I ha.2
  obtain ⟨c1, c2, c3⟩ := rs_crI (bb := lb_z (lb_p xs i 2)) I' hxx
  refine lv_istore (lv' := (5, .int 0) :: [(0, .ref b), (1, .ref a), (2, .ref B), (3, .ref o), (4, .int (nI i))]) hx hb dL_law_340 hl (by decide) rfl (fun ls hl => ?_)
  refine lv_aload_n hx hb dL_law_342 rfl (lv_at hl 3 rfl) ?_
  refine lv_aload_n hx hb dL_law_343 rfl (lv_at hl 1 rfl) ?_
  refine lv_iload hx hb dL_law_344 (lv_at hl 5 rfl) ?_
  refine lv_iconst (v := 1) hx hb dL_law_346 (by decide) ?_
  refine lv_iadd hx hb dL_law_347 ?_
  refine va_sld hx hb hX hbl (lb_nA hbl) Y.1.1 (lb_in (j := 1) (by omega) (by omega)) dL_law_348 ?_
  refine lv_aload_n hx hb dL_law_349 rfl (lv_at hl 1 rfl) ?_
  refine lv_iload hx hb dL_law_350 (lv_at hl 5 rfl) ?_
  refine lv_iconst (v := 2) hx hb dL_law_352 (by decide) ?_
  refine lv_iadd hx hb dL_law_353 ?_
  refine va_sld hx hb hX hbl (lb_nA hbl) Y.1.1 (lb_in (j := 2) (by omega) (by omega)) dL_law_354 ?_
  refine lb_bool hx hb dL_law_355 dL_law_358 dL_law_359 dL_law_362 ?_
  have hR : mj_R (tb ar) 128 (mj_en (tb ar) 128 (.ref B :: [.int (lb_p xs i 1), .int (lb_z (lb_p xs i 2))]) (rs_st ar B H.size 0 s0)) (.inl (some (.int (if s0.2 1 x = 0 then 0 else 1))), rs_st ar B H.size 0 (rs_crash (rs_w s0 0 0) x n (lb_z (lb_p xs i 2)))) := by
    rw [hpx]
    exact wp_R ((R_crash hxx I'.2.1.1.1 I'.2.1.1.2 (by omega) lb_z_or).mpr ⟨rfl, rfl⟩)
  refine lb_VY (kr := 128) (As := [.int (lb_p xs i 1), .int (lb_z (lb_p xs i 2))]) (rest := []) X Y hR (by decide) rfl rfl rfl (Nat.le_of_ble_eq_true rfl) (fun w hw => by simp only [List.mem_cons, List.not_mem_nil, or_false] at hw; rcases hw with rfl | rfl <;> rfl) lkr_crash ⟨Nat.le_of_ble_eq_true rfl, Nat.le_of_ble_eq_true rfl⟩ hl.1 (Nat.le_of_ble_eq_true rfl) dL_law_363 ⟨rm_c (show cells ≤ 590000 by omega), rm_s (show slots ≤ 7150000 by omega)⟩ (fun H1 locs1 Y1 ho => ?_)
  refine lb_tail2 X hi hL Y1 I ha c1 (fun j hj => by rw [c3 j]; exact hfl j hj) hc hs c2 (fun _ => ?_) hl kk
  obtain ⟨f, f1, f2⟩ := hout
  exact ⟨f, by rw [ho]; exact f1, f2⟩
theorem lbc_crash (X : lb_X p l s m meth c b L xs ar D cL) (hi : i + 4 ≤ L) (hL : L ≤ 2049) (hK : lp_K s ar D cL B o a n i H locs cells slots) (hl : lv_has ls 7 [(0, .ref b), (1, .ref a), (2, .ref B), (3, .ref o), (4, .int (nI i))]) (kk : ∀ (H1 : Heap) (locs1 : List Loc) (c1 s1 : Nat) (ls1 : Array Slot), lp_K s ar D cL B o a n (i + 4) H1 locs1 c1 s1 → lv_has ls1 7 [(0, .ref b), (1, .ref a), (2, .ref B), (3, .ref o), (4, .int (nI i))] → W p l e room_1 s m #[Value.ref b] below meth c H1 locs1 c1 s1 Q (F0 m 637 ls1 [])) : W p l e room_1 s m #[Value.ref b] below meth c H locs cells slots Q (F0 m 315 ls []) := by
  have X0 := X
  obtain ⟨⟨hx, hb, -⟩, -, -, hX, hbl, -, -, -, -, hlt⟩ := X0
  obtain ⟨σ, A, cs, W1, U1, s0, W2, Y, I, ⟨ha, hn⟩, I', hfl, hc, hs⟩ := hK
  subst ha
  obtain ⟨rm1, rm2⟩ := ct_rm I
  have hn4 := cs_n4 I hn
  obtain ⟨fs, hb1⟩ := cI_0 I
  refine lv_aload_n hx hb dL_law_315 rfl (lv_at hl 1 rfl) ?_
  refine lv_aload_n hx hb dL_law_316 rfl (lv_at hl 0 rfl) ?_
  refine lv_iload hx hb dL_law_317 (lv_at hl 4 rfl) ?_
  refine lv_iconst (v := 1) hx hb dL_law_319 (by decide) ?_
  refine lv_iadd hx hb dL_law_320 ?_
  refine va_sld hx hb hX hbl (lb_nA hbl) Y.1.1 (lb_in (j := 1) (by omega) (by omega)) dL_law_321 ?_
  refine lv_aload_n hx hb dL_law_322 rfl (lv_at hl 0 rfl) ?_
  refine lv_iload hx hb dL_law_323 (lv_at hl 4 rfl) ?_
  refine lv_iconst (v := 2) hx hb dL_law_325 (by decide) ?_
  refine lv_iadd hx hb dL_law_326 ?_
  refine va_sld hx hb hX hbl (lb_nA hbl) Y.1.1 (lb_in (j := 2) (by omega) (by omega)) dL_law_327 ?_
  refine lb_bool hx hb dL_law_328 dL_law_331 dL_law_332 dL_law_335 ?_
  refine lv_aload_n hx hb dL_law_336 rfl (lv_at hl 3 rfl) ?_
  rcases cI_node (v := lb_p xs i 1) I with h | ⟨x, hxx, hpx, -⟩
  · have hr : mj_R (tb ar) 49 (mj_en (tb ar) 49 (.ref (A (0, 0)) :: [.int (lb_p xs i 1), .int (lb_z (lb_p xs i 2))]) σ) (.inr x_ix, σ) := wp_R ((C_crash0 (b := .int (lb_z (lb_p xs i 2))) I.1 h).mpr ⟨rfl, rfl⟩)
    refine lw_S (as := [.ref (A (0, 0)), .int (lb_p xs i 1), .int (lb_z (lb_p xs i 2)), .ref o]) (rest := []) (na := 4) (kc := 49) X Y (Lx_crash_x_ix hlt hr hb1 (lb_no Y)) wr_blindX (fun _ _ q => q) gL_crash ⟨by decide, by decide, by decide⟩ ⟨Nat.le_of_ble_eq_true rfl, Nat.le_of_ble_eq_true rfl⟩ rfl hl.1 (Nat.le_of_ble_eq_true rfl) dL_law_337 ⟨rm_c (show cells + (σ.1 - σ.1 + 1) ≤ 590000 by omega), rm_s (show slots + (σ.2.1 - σ.2.1 + 6) ≤ 7150000 by omega)⟩ (fun H1 locs1 Z1 hK hz => ?_)
    refine lbr_crash1 X hi hL ⟨(H1.size, 0, σ.2.2), A, cs, W1, U1, s0, W2, lb_Yn Y Z1 mj_le.rf hz hK, I_at I (by rw [Y.2.1.1]; exact hz), ⟨rfl, hn⟩, I', hfl, by omega, by omega⟩ (fun N hN => ?_) hl kk
    rw [I.2.1.2.2.2, hn, ← hN] at h
    exact rs_in_n.mp ((rs_chk (by omega) (by omega)).mp h)
  · have hwp : mj_wp (tb ar) 49 (mj_en (tb ar) 49 (.ref (A (0, 0)) :: [.int (lb_p xs i 1), .int (lb_z (lb_p xs i 2))]) σ) (fun r τ => ∃ cs', r = .inl (some (.int (if cs_v cs 9 x 1 = 0 then 0 else 1))) ∧ ct_I ar A cs' τ W1 [] U1 [] ∧ cs_n σ τ ∧ (cs'.1 = cs.1 ∧ ct_1 cs' = ct_1 cs ∧ ct_2 cs' = ct_2 cs) ∧ ∀ j, cs_v cs' 9 j 1 = if j = x then lb_z (lb_p xs i 2) else cs_v cs 9 j 1) := by
      rw [hpx]
      exact C_crashI I hxx lb_z_or (fun cs' τ a1 a2 a3 a4 => ⟨cs', rfl, a1, a2, a3, a4⟩)
    obtain ⟨⟨r9, τ⟩, hr, cs', e1, I1, hn1, ⟨e2, e3, e4⟩, h9⟩ := hwp
    dsimp only at e1 I1 hn1
    subst e1
    have hle : mj_le σ τ := R_le hr
    have q1 := hn1.1
    have q2 := hn1.2
    refine lw_S (as := [.ref (A (0, 0)), .int (lb_p xs i 1), .int (lb_z (lb_p xs i 2)), .ref o]) (rest := []) (na := 4) (kc := 49) X Y (Lr_crash hr hb1 (lb_no Y) (lb_no2 Y hle)) wr_blind (fun _ _ q => q.1) gL_crash ⟨by decide, by decide, by decide⟩ ⟨Nat.le_of_ble_eq_true rfl, Nat.le_of_ble_eq_true rfl⟩ rfl hl.1 (Nat.le_of_ble_eq_true rfl) dL_law_337 ⟨rm_c (show cells + (τ.1 - σ.1) ≤ 590000 by omega), rm_s (show slots + (τ.2.1 - σ.2.1) ≤ 7150000 by omega)⟩ (fun H1 locs1 Z1 hK hz => ?_)
    have hx2 : x < 2 * n - 1 := by rw [← hn]; exact hxx
    have hw : (if cs_v cs 9 x 1 = 0 then (0 : Int32) else 1) = (if s0.2 1 x = 0 then 0 else 1) := by
      by_cases hz9 : cs_v cs 9 x 1 = 0
      · rw [if_pos hz9, if_pos ((hfl x hx2).mp hz9)]
      · rw [if_neg hz9, if_neg (fun q => hz9 ((hfl x hx2).mpr q))]
    refine lbr_crash0 X hi hL (lb_Yn Y Z1 hle hz hK.2.1) (I_at I1 hK.2.2) ⟨rfl, e2.trans hn⟩ I' hx2 hpx (fun j hj => ?_) (by omega) (by omega) (by rw [← hw]; exact hK.1) hl kk
    rw [h9 j]
    by_cases e : j = x
    · rw [if_pos e, if_pos e]
    · rw [if_neg e, if_neg e]
      exact hfl j hj
theorem lk_tick : Cond.methodLink RL 84 (tb_Y 47) ∈ tb_W := by decide +kernel
theorem lkr_tick : Cond.methodLink RL 87 (tb_Y 126) ∈ tb_W := by decide +kernel
theorem lbc_tick (X : lb_X p l s m meth c b L xs ar D cL) (hi : i + 4 ≤ L) (hL : L ≤ 2049) (hK : lp_K s ar D cL B o a n i H locs cells slots) (hl : lv_has ls 7 [(0, .ref b), (1, .ref a), (2, .ref B), (3, .ref o), (4, .int (nI i))]) (kk : ∀ (H1 : Heap) (locs1 : List Loc) (c1 s1 : Nat) (ls1 : Array Slot), lp_K s ar D cL B o a n (i + 4) H1 locs1 c1 s1 → lv_has ls1 7 [(0, .ref b), (1, .ref a), (2, .ref B), (3, .ref o), (4, .int (nI i))] → W p l e room_1 s m #[Value.ref b] below meth c H1 locs1 c1 s1 Q (F0 m 637 ls1 [])) : W p l e room_1 s m #[Value.ref b] below meth c H locs cells slots Q (F0 m 276 ls []) := by
  have X0 := X
  obtain ⟨⟨hx, hb, -⟩, -, -, hX, hbl, -, -, -, -, hlt⟩ := X0
  obtain ⟨σ, A, cs, W1, U1, s0, W2, Y, I, ⟨ha, hn⟩, I', hfl, hc, hs⟩ := hK
  subst ha
  obtain ⟨rm1, rm2⟩ := ct_rm I
  have hn4 := cs_n4 I hn
  obtain ⟨fs, hb1⟩ := cI_0 I
  refine lv_aload_n hx hb dL_law_276 rfl (lv_at hl 1 rfl) ?_
  have hwp : mj_wp (tb ar) 47 (mj_en (tb ar) 47 [.ref (A (0, 0))] σ) (fun r τ => r = .inl none ∧ ct_Z ar A cs σ τ) := C_tick I (fun τ h => ⟨rfl, h⟩)
  obtain ⟨⟨r9, τ⟩, hr, e1, A1, cs1, W3, U3, I1, D1⟩ := hwp
  dsimp only at e1 I1 D1
  subst e1
  have hle : mj_le σ τ := R_le hr
  obtain ⟨rm3, rm4⟩ := ct_rm I1
  have ac := D1.1.2.2.2.2
  have h1 := hle.1
  have h2 := hle.2.1
  refine lb_CY (kc := 47) (rest := []) X Y hr hb1 (by decide) rfl rfl (Nat.le_of_ble_eq_true rfl) lk_tick ⟨Nat.le_of_ble_eq_true rfl, Nat.le_of_ble_eq_true rfl⟩ hl.1 (Nat.le_of_ble_eq_true rfl) dL_law_277 ⟨rm_c (show cells + (τ.1 - σ.1) ≤ 590000 by omega), rm_s (show slots + (τ.2.1 - σ.2.1) ≤ 7150000 by omega)⟩ (fun H1 locs1 Y1 hz1 => ?_)
  refine lv_aload_n hx hb dL_law_280 rfl (lv_at hl 2 rfl) ?_
  have hwp2 : mj_wp (tb ar) 126 (mj_en (tb ar) 126 [.ref B] (rs_st ar B H1.size 0 s0)) (fun r τ => ∃ s', r = .inl none ∧ τ = rs_st ar B H1.size 0 s' ∧ rs_Zc s0 n s') := R_tick hn4 I' (fun s' h => ⟨s', rfl, rfl, h⟩)
  obtain ⟨⟨r8, τ8⟩, hR, s', e1, e2, ⟨W4, I4⟩, e3⟩ := hwp2
  dsimp only at e1 e2
  subst e1
  subst e2
  refine lb_VY (kr := 126) (As := []) (rest := []) X Y1 hR (by decide) rfl rfl rfl (Nat.le_of_ble_eq_true rfl) (fun w hw => by cases hw) lkr_tick ⟨Nat.le_of_ble_eq_true rfl, Nat.le_of_ble_eq_true rfl⟩ hl.1 (Nat.le_of_ble_eq_true rfl) dL_law_281 ⟨rm_c (show cells + (τ.1 - σ.1) ≤ 590000 by omega), rm_s (show slots + (τ.2.1 - σ.2.1) ≤ 7150000 by omega)⟩ (fun H2 locs2 Y2 _ => ?_)
  refine lv_goto (tgt := 637) hx hb dL_law_284 (by decide) ?_
  exact kk H2 locs2 _ _ ls ⟨(H1.size, 0, τ.2.2), A1, cs1, W3, U3, s', W4, Y2, I_at I1 (Nat.le_of_eq hz1), ⟨D1.1.1 0 0 (by decide), D1.1.2.2.1.trans hn⟩, I4, fun j hj => by rw [D1.2.1 j, e3]; exact hfl j hj, by omega, by omega⟩ hl
theorem lk_way : Cond.methodLink RL 99 (tb_Y 50) ∈ tb_W := by decide +kernel
theorem lkr_way : Cond.methodLink RL 102 (tb_Y 129) ∈ tb_W := by decide +kernel
theorem lbc_way (X : lb_X p l s m meth c b L xs ar D cL) (hi : i + 4 ≤ L) (hL : L ≤ 2049) (hK : lp_K s ar D cL B o a n i H locs cells slots) (hl : lv_has ls 7 [(0, .ref b), (1, .ref a), (2, .ref B), (3, .ref o), (4, .int (nI i))]) (kk : ∀ (H1 : Heap) (locs1 : List Loc) (c1 s1 : Nat) (ls1 : Array Slot), lp_K s ar D cL B o a n (i + 4) H1 locs1 c1 s1 → lv_has ls1 7 [(0, .ref b), (1, .ref a), (2, .ref B), (3, .ref o), (4, .int (nI i))] → W p l e room_1 s m #[Value.ref b] below meth c H1 locs1 c1 s1 Q (F0 m 637 ls1 [])) : W p l e room_1 s m #[Value.ref b] below meth c H locs cells slots Q (F0 m 399 ls []) := by
  have X0 := X
  obtain ⟨⟨hx, hb, -⟩, -, -, hX, hbl, -, -, -, -, hlt⟩ := X0
  obtain ⟨σ, A, cs, W1, U1, s0, W2, Y, I, ⟨ha, hn⟩, I', hfl, hc, hs⟩ := hK
  subst ha
  obtain ⟨rm1, rm2⟩ := ct_rm I
  have hn4 := cs_n4 I hn
  obtain ⟨fs, hb1⟩ := cI_0 I
  refine lv_aload_n hx hb dL_law_399 rfl (lv_at hl 1 rfl) ?_
  have e0 : cells + (σ.1 - σ.1) = cells := by omega
  have e9 : slots + (σ.2.1 - σ.2.1) = slots := by omega
  refine lb_CY (kc := 50) (v := some (.int (cs_v cs 4 0 2))) (τ := σ) (rest := []) X Y (wp_R ((C_way I.1).mpr ⟨rfl, rfl⟩)) hb1 (by decide) rfl rfl (Nat.le_of_ble_eq_true rfl) lk_way ⟨Nat.le_of_ble_eq_true rfl, Nat.le_of_ble_eq_true rfl⟩ hl.1 (Nat.le_of_ble_eq_true rfl) dL_law_400 ⟨rm_c (show cells + (σ.1 - σ.1) ≤ 590000 by omega), rm_s (show slots + (σ.2.1 - σ.2.1) ≤ 7150000 by omega)⟩ (fun H1 locs1 Y1 hz1 => ?_)
  refine lv_pop hx hb dL_law_403 rfl ?_
  refine lv_aload_n hx hb dL_law_404 rfl (lv_at hl 2 rfl) ?_
  refine lb_VY (kr := 129) (As := []) (v := some (.int (s0.1 28))) (s' := rs_w s0 0 0) (rest := []) X Y1 (wp_R (R_way.mpr ⟨rfl, rfl⟩)) (by decide) rfl rfl rfl (Nat.le_of_ble_eq_true rfl) (fun w hw => by cases hw) lkr_way ⟨Nat.le_of_ble_eq_true rfl, Nat.le_of_ble_eq_true rfl⟩ hl.1 (Nat.le_of_ble_eq_true rfl) dL_law_405 ⟨rm_c (show cells + (σ.1 - σ.1) ≤ 590000 by omega), rm_s (show slots + (σ.2.1 - σ.2.1) ≤ 7150000 by omega)⟩ (fun H2 locs2 Y2 _ => ?_)
  refine lv_pop hx hb dL_law_408 rfl ?_
  refine lv_goto (tgt := 637) hx hb dL_law_409 (by decide) ?_
  exact kk H2 locs2 _ _ ls ⟨(H1.size, 0, σ.2.2), A, cs, W1, U1, rs_w s0 0 0, W2, Y2, I_at I (Nat.le_of_eq hz1), ⟨rfl, hn⟩, I_w I', hfl, by omega, by omega⟩ hl
theorem lk_lost : Cond.methodLink RL 119 (tb_Y 56) ∈ tb_W := by decide +kernel
theorem lkr_lost : Cond.methodLink RL 122 (tb_Y 135) ∈ tb_W := by decide +kernel
theorem lbc_lost (X : lb_X p l s m meth c b L xs ar D cL) (hi : i + 4 ≤ L) (hL : L ≤ 2049) (hK : lp_K s ar D cL B o a n i H locs cells slots) (hl : lv_has ls 7 [(0, .ref b), (1, .ref a), (2, .ref B), (3, .ref o), (4, .int (nI i))]) (kk : ∀ (H1 : Heap) (locs1 : List Loc) (c1 s1 : Nat) (ls1 : Array Slot), lp_K s ar D cL B o a n (i + 4) H1 locs1 c1 s1 → lv_has ls1 7 [(0, .ref b), (1, .ref a), (2, .ref B), (3, .ref o), (4, .int (nI i))] → W p l e room_1 s m #[Value.ref b] below meth c H1 locs1 c1 s1 Q (F0 m 637 ls1 [])) : W p l e room_1 s m #[Value.ref b] below meth c H locs cells slots Q (F0 m 624 ls []) := by
  have X0 := X
  obtain ⟨⟨hx, hb, -⟩, -, -, hX, hbl, -, -, -, -, hlt⟩ := X0
  obtain ⟨σ, A, cs, W1, U1, s0, W2, Y, I, ⟨ha, hn⟩, I', hfl, hc, hs⟩ := hK
  subst ha
  obtain ⟨rm1, rm2⟩ := ct_rm I
  have hn4 := cs_n4 I hn
  obtain ⟨fs, hb1⟩ := cI_0 I
  refine lv_aload_n hx hb dL_law_624 rfl (lv_at hl 1 rfl) ?_
  have e0 : cells + (σ.1 - σ.1) = cells := by omega
  have e9 : slots + (σ.2.1 - σ.2.1) = slots := by omega
  refine lb_CY (kc := 56) (v := some (.int (cs_v cs 3 0 4))) (τ := σ) (rest := []) X Y (wp_R ((C_lost I.1).mpr ⟨rfl, rfl⟩)) hb1 (by decide) rfl rfl (Nat.le_of_ble_eq_true rfl) lk_lost ⟨Nat.le_of_ble_eq_true rfl, Nat.le_of_ble_eq_true rfl⟩ hl.1 (Nat.le_of_ble_eq_true rfl) dL_law_625 ⟨rm_c (show cells + (σ.1 - σ.1) ≤ 590000 by omega), rm_s (show slots + (σ.2.1 - σ.2.1) ≤ 7150000 by omega)⟩ (fun H1 locs1 Y1 hz1 => ?_)
  refine lv_pop hx hb dL_law_628 rfl ?_
  refine lv_aload_n hx hb dL_law_629 rfl (lv_at hl 2 rfl) ?_
  refine lb_VY (kr := 135) (As := []) (v := some (.int (s0.1 41))) (s' := rs_w s0 0 0) (rest := []) X Y1 (wp_R (R_lost.mpr ⟨rfl, rfl⟩)) (by decide) rfl rfl rfl (Nat.le_of_ble_eq_true rfl) (fun w hw => by cases hw) lkr_lost ⟨Nat.le_of_ble_eq_true rfl, Nat.le_of_ble_eq_true rfl⟩ hl.1 (Nat.le_of_ble_eq_true rfl) dL_law_630 ⟨rm_c (show cells + (σ.1 - σ.1) ≤ 590000 by omega), rm_s (show slots + (σ.2.1 - σ.2.1) ≤ 7150000 by omega)⟩ (fun H2 locs2 Y2 _ => ?_)
  refine lv_pop hx hb dL_law_633 rfl ?_
  refine lv_goto (tgt := 637) hx hb dL_law_634 (by decide) ?_
  exact kk H2 locs2 _ _ ls ⟨(H1.size, 0, σ.2.2), A, cs, W1, U1, rs_w s0 0 0, W2, Y2, I_at I (Nat.le_of_eq hz1), ⟨rfl, hn⟩, I_w I', hfl, by omega, by omega⟩ hl
end LO2
