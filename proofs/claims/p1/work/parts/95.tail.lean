section LT
variable {p : Program} {l : Launch} {e : Env} {s : State} {m : MethodId} {below : List Frame} {meth : Method} {c : Code} {H : Heap} {locs : List Loc} {cells slots : Nat} {ls : Array Slot} {ar : Nat → ClassId} {D : va_G} {b a B o L t : Nat} {cL : ClassId} {xs : Nat → Int32} {s' : rs_S} {k r : Int32}
theorem lb_nA (h : b < s.heap.size) : ¬ lb_A s b := Nat.not_le.mpr h
/-- the loop's end: no further call -/
theorem lb_out {x : Int32} (X : lb_X p l s m meth c b L xs ar D cL) (hS : va_S (lb_A s) s.heap H locs) (hl : lv_has ls 7 [(4, .int x), (0, .ref b)]) (hlt : Int32.ofNat L - 4 < x) (hc : cells ≤ 590000) (hs : slots ≤ 7150000) : W p l e room_1 s m #[Value.ref b] below meth c H locs cells slots (lw_Z below #[Value.ref b] s) (F0 m 33 ls []) := by
  obtain ⟨⟨hx, hb, -⟩, hret, hlocks, hX, hbl, -⟩ := X
  refine lv_iload hx hb dL_law_33 (lv_at hl 0 rfl) ?_
  refine lv_aload_n hx hb dL_law_35 rfl (lv_at hl 1 rfl) ?_
  refine va_slen hx hb hX hbl (lb_nA hbl) hS dL_law_36 ?_
  refine lv_iconst (v := 4) hx hb dL_law_37 (by decide) ?_
  refine lv_isub hx hb dL_law_38 ?_
  refine lv_icmp_gt (tgt := 951) hx hb dL_law_39 (by decide) (fun _ => ?_) (fun h => absurd hlt h)
  refine lv_iconst (v := 1) hx hb dL_law_951 (by decide) ?_
  refine va_forget (fun q hq => hS.2.2 q hq) ?_
  exact W.widen (rm_c hc) (rm_s hs) (lw_ret hx hb hret hlocks dL_law_952)
theorem lb_end (X : lb_X p l s m meth c b 5 xs ar D cL) (hS : va_S (lb_A s) s.heap H locs) (hl : lv_has ls 7 [(0, .ref b), (4, .int 1)]) (hc : cells ≤ 590000) (hs : slots ≤ 7150000) : W p l e room_1 s m #[Value.ref b] below meth c H locs cells slots (lw_Z below #[Value.ref b] s) (F0 m 945 ls []) := by
  obtain ⟨hx, hb, -⟩ := X.1
  refine lv_iinc (k := 1) (v := 5) (lv' := [(4, .int 5), (0, .ref b)]) hx hb dL_law_945 hl rfl (by decide) (by decide) rfl (fun ls hl => ?_)
  refine lv_goto (tgt := 33) hx hb dL_law_948 (by decide) ?_
  exact lb_out X hS hl (by decide) hc hs
theorem lg_cmp_self {x : Int64} : lg_cmp x x = 0 := by
  unfold lg_cmp
  rw [if_neg (fun h => absurd h (Int64.lt_irrefl)), if_pos rfl]
theorem lk_thrown : Cond.methodLink RL 71 (tb_Y 88) ∈ tb_W := by decide +kernel
/-- behind both calls: what was thrown, what was answered -/
theorem lb_tail {off : Int} (X : lb_X p l s m meth c b 5 xs ar D cL) (Z : lb_Z s ar D B o s' H locs) (hk : s'.1 0 = k) (hout : k = 0 → ∃ f, H[o]? = some (arrV cL 1 f) ∧ f 0 = .long r.toInt64) (hl : lv_has ls 7 [(5, .int k), (0, .ref b), (1, .ref a), (2, .ref B), (3, .ref o), (4, .int 1)]) (hc : cells ≤ 590000) (hs : slots ≤ 7150000)
    (d0 : decode cL_law t = .ok (.istore 6, 2)) (d2 : decode cL_law (t + 2) = .ok (.aload_n 2, 1)) (d3 : decode cL_law (t + 3) = .ok (.invokevirtual 71, 3)) (d6 : decode cL_law (t + 6) = .ok (.iload 5, 2)) (d8 : decode cL_law (t + 8) = .ok (.if_icmp .eq 5, 3)) (d13 : decode cL_law (t + 13) = .ok (.iload 5, 2)) (d15 : decode cL_law (t + 15) = .ok (.ifCond .ne 15, 3)) (d18 : decode cL_law (t + 18) = .ok (.aload_n 3, 1)) (d19 : decode cL_law (t + 19) = .ok (.iconst 0, 1)) (d20 : decode cL_law (t + 20) = .ok (.laload, 1)) (d21 : decode cL_law (t + 21) = .ok (.iload 6, 2)) (d23 : decode cL_law (t + 23) = .ok (.i2l, 1)) (d24 : decode cL_law (t + 24) = .ok (.lcmp, 1)) (d25 : decode cL_law (t + 25) = .ok (.ifCond .eq 5, 3)) (d30 : decode cL_law (t + 30) = .ok (.goto off, 3)) (hoff : ((t + 30 : Nat) : Int) + off = ((945 : Nat) : Int)) : W p l e room_1 s m #[Value.ref b] below meth c H locs cells slots (lw_Z below #[Value.ref b] s) (F0 m t ls [.int r]) := by
  have hLo := X.2.2.2.2.2.2.2.2.1
  obtain ⟨hx, hb, -⟩ := X.1
  refine lv_istore (lv' := [(6, .int r), (5, .int k), (0, .ref b), (1, .ref a), (2, .ref B), (3, .ref o), (4, .int 1)]) hx hb d0 hl (by decide) rfl (fun ls hl => ?_)
  refine lv_aload_n hx hb d2 rfl (lv_at hl 4 rfl) ?_
  refine lb_V (kr := 88) (As := []) (v := some (.int (s'.1 0))) (s0 := s') (s' := s') (rest := []) X Z (wp_R (R_thrown.mpr ⟨rfl, rfl⟩)) (by decide) rfl rfl rfl (Nat.le_of_ble_eq_true rfl) (fun w hw => by cases hw) lk_thrown ⟨Nat.le_of_ble_eq_true rfl, Nat.le_of_ble_eq_true rfl⟩ hl.1 (Nat.le_of_ble_eq_true rfl) d3 ⟨rm_c hc, rm_s hs⟩ (fun H1 locs1 Z1 ho => ?_)
  have hfin : W p l e room_1 s m #[Value.ref b] below meth c H1 locs1 cells slots (lw_Z below #[Value.ref b] s) (F0 m (t + 30) ls []) := lv_goto (tgt := 945) hx hb d30 hoff (lb_end X Z1.1 (lv_sub hl [2, 6] rfl) hc hs)
  refine lv_iload hx hb d6 (lv_at hl 1 rfl) ?_
  refine lv_icmp_eq (tgt := t + 13) hx hb d8 (by omega) (fun _ => ?_) (fun h => absurd hk h)
  refine lv_iload hx hb d13 (lv_at hl 1 rfl) ?_
  refine lv_if_ne (tgt := t + 30) hx hb d15 (by omega) (fun _ => hfin) (fun h => ?_)
  obtain ⟨f, g1, g2⟩ := hout h
  rw [← ho] at g1
  refine lv_aload_n hx hb d18 rfl (lv_at hl 5 rfl) ?_
  refine lv_iconst (v := 0) hx hb d19 (by decide) ?_
  refine W.lald (v := .long r.toInt64) hx hb g1 (hLo 1 f) (fun q => by cases q) (by show ¬ ((0 : Int32) < 0 ∨ (arrV _ _ _).slots.size ≤ _); rw [arrV_size]; decide) (by show (arrV _ _ _).slots[(0 : Int32).toNatClampNeg]? = _; rw [arrV_read _ _ (show (0 : Int32).toNatClampNeg < 1 by decide)]; exact congrArg some g2) rfl rfl d20 ?_
  refine lv_iload hx hb d21 (lv_at hl 0 rfl) ?_
  refine lv_i2l (v := r.toInt64) hx hb d23 rfl ?_
  refine W.lcmp hx hb d24 ?_
  rw [lg_cmp_self]
  exact lv_if_eq (tgt := t + 30) hx hb d25 (by first | omega | (dsimp only; omega)) (fun _ => hfin) (fun h => absurd rfl h)
/-- the script's int j behind the operation -/
abbrev lb_p (xs : Nat → Int32) (j : Int32) : Int32 := xs ((1 : Int32) + j).toNatClampNeg
theorem lb_i0 : vp_in (1 : Int32) 5 := by
  unfold vp_in
  decide
theorem lb_i1 : vp_in ((1 : Int32) + 1) 5 := by
  unfold vp_in
  decide
theorem lb_i2 : vp_in ((1 : Int32) + 2) 5 := by
  unfold vp_in
  decide
theorem lb_i3 : vp_in ((1 : Int32) + 3) 5 := by
  unfold vp_in
  decide
end LT
