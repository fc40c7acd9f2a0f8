section LD
variable {p : Program} {l : Launch} {e : Env} {s : State} {m : MethodId} {below : List Frame} {meth : Method} {c : Code} {H : Heap} {locs : List Loc} {cells slots : Nat} {Q : State → Prop} {ls : Array Slot} {ar : Nat → ClassId} {D : va_G} {σ : mj_S} {A : tg_T → Nat} {b a B o n : Nat} {cL : ClassId} {xs : Nat → Int32} {s' : rs_S} {rest : List Value}
theorem lb_and {x : Int32} : ∃ j : Nat, j < 16 ∧ x &&& 15 = nI j := by
  have h1 : (x &&& 15).toBitVec.toNat ≤ 15 := by
    rw [Int32.toBitVec_and, BitVec.toNat_and]
    exact Nat.and_le_right
  refine ⟨(x &&& 15).toBitVec.toNat, by omega, ?_⟩
  apply Int32.toBitVec_inj.mp
  apply BitVec.eq_of_toNat_eq
  generalize (x &&& 15).toBitVec.toNat = j at h1 ⊢
  rw [show (nI j).toBitVec = BitVec.ofNat 32 j from rfl, BitVec.toNat_ofNat]
  omega
theorem lb_loop (X : lb_X p l s m meth c b 5 xs ar D cL) (Y : lb_Y s ar D cL B o (rs_0 n) σ H locs) (hT : tg_R A (cs_h ar A (cs_0 n)) σ) (hn : n = 2 ∨ n = 3 ∨ n = 4 ∨ n = 5) (hl : lv_has ls 7 [(0, .ref b), (1, .ref (A (0, 0))), (2, .ref B), (3, .ref o), (4, .int 1)]) (hc : cells ≤ 500000) (hs : slots ≤ 7000000) : W p l e room_1 s m #[Value.ref b] below meth c H locs cells slots (lw_Z below #[Value.ref b] s) (F0 m 33 ls []) := by
  have X0 := X
  obtain ⟨⟨hx, hb, -⟩, -, -, hX, hbl, -⟩ := X0
  refine lv_iload hx hb dL_law_33 (lv_at hl 4 rfl) ?_
  refine lv_aload_n hx hb dL_law_35 rfl (lv_at hl 0 rfl) ?_
  refine va_slen hx hb hX hbl (lb_nA hbl) Y.1.1 dL_law_36 ?_
  refine lv_iconst (v := 4) hx hb dL_law_37 (by decide) ?_
  refine lv_isub hx hb dL_law_38 ?_
  refine lv_icmp_gt (tgt := 951) hx hb dL_law_39 (by decide) (fun h => absurd h (by decide)) (fun _ => ?_)
  refine lv_aload_n hx hb dL_law_42 rfl (lv_at hl 0 rfl) ?_
  refine lv_iload hx hb dL_law_43 (lv_at hl 4 rfl) ?_
  refine va_sld hx hb hX hbl (lb_nA hbl) Y.1.1 lb_i0 dL_law_45 ?_
  refine lv_bipush (v := 15) hx hb dL_law_46 (by decide) ?_
  refine lv_iand hx hb dL_law_48 ?_
  obtain ⟨j, hj, he⟩ := lb_and (x := xs (1 : Int32).toNatClampNeg)
  rw [he]
  have hjj : j = 0 ∨ j = 1 ∨ j = 2 ∨ j = 3 ∨ j = 4 ∨ j = 5 ∨ j = 6 ∨ j = 7 ∨ j = 8 ∨ j = 9 ∨ j = 10 ∨ j = 11 ∨ j = 12 ∨ j = 13 ∨ j = 14 ∨ j = 15 := by omega
  rcases hjj with rfl | rfl | rfl | rfl | rfl | rfl | rfl | rfl | rfl | rfl | rfl | rfl | rfl | rfl | rfl | rfl
  · exact lv_tableIn (tgt := 124) hx hb dL_law_49 (by decide) (by decide) rfl (by decide) (lbc_submit X Y hT hn hl hc hs)
  · exact lv_tableIn (tgt := 192) hx hb dL_law_49 (by decide) (by decide) rfl (by decide) (lbc_campaign X Y hT hn hl hc hs)
  · exact lv_tableIn (tgt := 248) hx hb dL_law_49 (by decide) (by decide) rfl (by decide) (lbc_deliver X Y hT hn hl hc hs)
  · exact lv_tableIn (tgt := 304) hx hb dL_law_49 (by decide) (by decide) rfl (by decide) (lbc_lose X Y hT hn hl hc hs)
  · exact lv_tableIn (tgt := 360) hx hb dL_law_49 (by decide) (by decide) rfl (by decide) (lbc_repeat X Y hT hn hl hc hs)
  · exact lv_tableIn (tgt := 416) hx hb dL_law_49 (by decide) (by decide) rfl (by decide) (lbc_tick X Y hT hn hl hc hs)
  · exact lv_tableIn (tgt := 427) hx hb dL_law_49 (by decide) (by decide) rfl (by decide) (lbc_run X Y hT hn hl hc hs)
  · exact lv_tableIn (tgt := 483) hx hb dL_law_49 (by decide) (by decide) rfl (by decide) (lbc_crash X Y hT hn hl hc hs)
  · exact lv_tableIn (tgt := 567) hx hb dL_law_49 (by decide) (by decide) rfl (by decide) (lbc_way X Y hT hn hl hc hs)
  · exact lv_tableIn (tgt := 580) hx hb dL_law_49 (by decide) (by decide) rfl (by decide) (lbc_message X Y hT hn hl hc hs)
  · exact lv_tableIn (tgt := 648) hx hb dL_law_49 (by decide) (by decide) rfl (by decide) (lbc_decided X Y hT hn hl hc hs)
  · exact lv_tableIn (tgt := 716) hx hb dL_law_49 (by decide) (by decide) rfl (by decide) (lbc_about X Y hT hn hl hc hs)
  · exact lv_tableIn (tgt := 784) hx hb dL_law_49 (by decide) (by decide) rfl (by decide) (lbc_accepted X Y hT hn hl hc hs)
  · exact lv_tableIn (tgt := 864) hx hb dL_law_49 (by decide) (by decide) rfl (by decide) (lbc_members X Y hT hn hl hc hs)
  · exact lv_tableIn (tgt := 932) hx hb dL_law_49 (by decide) (by decide) rfl (by decide) (lbc_lost X Y hT hn hl hc hs)
  · exact lv_tableOut (tgt := 945) hx hb dL_law_49 (Or.inr (by decide)) (by decide) (lb_end X Y.1.1 (lv_sub hl [0, 4] rfl) (by omega) (by omega))
end LD
