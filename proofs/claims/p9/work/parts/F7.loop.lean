section LD
variable {p : Program} {l : Launch} {e : Env} {s : State} {m : MethodId} {below : List Frame} {meth : Method} {c : Code} {H : Heap} {locs : List Loc} {cells slots : Nat} {Q : State → Prop} {ls : Array Slot} {ar : Nat → ClassId} {D : va_G} {σ σ1 τ : mj_S} {A : tg_T → Nat} {cs : cs_S} {W1 U1 W2 : List Nat} {b a B o n i L : Nat} {cL : ClassId} {xs : Nat → Int32} {s0 s' : rs_S} {rest : List Value}
theorem lb_and {x : Int32} : ∃ j : Nat, j < 16 ∧ x &&& 15 = nI j := by
  have h1 : (x &&& 15).toBitVec.toNat ≤ 15 := by
    rw [Int32.toBitVec_and, BitVec.toNat_and]
    exact Nat.and_le_right
  refine ⟨(x &&& 15).toBitVec.toNat, by omega, ?_⟩
  apply Int32.toBitVec_inj.mp
  apply BitVec.eq_of_toNat_eq
  generalize (x &&& 15).toBitVec.toNat = j at h1 ⊢
  rw [show (nI j).toBitVec = BitVec.ofNat 32 j from rfl, BitVec.toNat_ofNat]
  omega
/-- the loop's end: no further call -/
theorem lb_out (X : lb_X p l s m meth c b L xs ar D cL) (hS : va_S (lb_A s) s.heap H locs) (hl : lv_has ls 7 [(0, .ref b), (1, .ref a), (2, .ref B), (3, .ref o), (4, .int (nI i))]) (hlt : nI L - 4 < nI i) (hc : cells ≤ 590000) (hs : slots ≤ 7150000) : W p l e room_1 s m #[Value.ref b] below meth c H locs cells slots (lw_Z below #[Value.ref b] s) (F0 m 33 ls []) := by
  obtain ⟨⟨hx, hb, -⟩, hret, hlocks, hX, hbl, -⟩ := X
  refine lv_iload hx hb dL_law_33 (lv_at hl 4 rfl) ?_
  refine lv_aload_n hx hb dL_law_35 rfl (lv_at hl 0 rfl) ?_
  refine va_slen hx hb hX hbl (lb_nA hbl) hS dL_law_36 ?_
  refine lv_iconst (v := 4) hx hb dL_law_37 (by decide) ?_
  refine lv_isub hx hb dL_law_38 ?_
  refine lv_icmp_gt (tgt := 643) hx hb dL_law_39 (by decide) (fun _ => ?_) (fun h => absurd hlt h)
  refine lv_iconst (v := 1) hx hb dL_law_643 (by decide) ?_
  refine va_forget (fun q hq => hS.2.2 q hq) ?_
  exact W.widen (rm_c hc) (rm_s hs) (lw_ret hx hb hret hlocks dL_law_644)
theorem lp_rm (hK : lp_K s ar D cL B o a n i H locs cells slots) (hi : i ≤ 3000) : va_S (lb_A s) s.heap H locs ∧ cells ≤ 590000 ∧ slots ≤ 7150000 := by
  obtain ⟨σ, A, cs, W1, U1, s0, W2, Y, I, -, -, -, hc, hs⟩ := hK
  obtain ⟨rm1, rm2⟩ := ct_rm I
  exact ⟨Y.1.1, by omega, by omega⟩
theorem lb_lp (X : lb_X p l s m meth c b L xs ar D cL) (hL : L ≤ 2049) : ∀ (F i : Nat), L ≤ i + 4 * F → 1 ≤ i → i ≤ 2053 → ∀ (H : Heap) (locs : List Loc) (cells slots : Nat) (ls : Array Slot), lp_K s ar D cL B o a n i H locs cells slots → lv_has ls 7 [(0, .ref b), (1, .ref a), (2, .ref B), (3, .ref o), (4, .int (nI i))] → W p l e room_1 s m #[Value.ref b] below meth c H locs cells slots (lw_Z below #[Value.ref b] s) (F0 m 33 ls []) := by
  intro F
  induction F with
  | zero =>
    intro i hF h1 hi H locs cells slots ls hK hl
    obtain ⟨hS, hc, hs⟩ := lp_rm hK (by omega)
    exact lb_out X hS hl ((nI_m4 (by omega) (by omega)).mpr (by omega)) hc hs
  | succ F ih =>
    intro i hF h1 hi H locs cells slots ls hK hl
    obtain ⟨hS, hc, hs⟩ := lp_rm hK (by omega)
    by_cases hiL : L < i + 4
    · exact lb_out X hS hl ((nI_m4 (by omega) (by omega)).mpr hiL) hc hs
    · have hi4 : i + 4 ≤ L := by omega
      have X0 := X
      obtain ⟨⟨hx, hb, -⟩, -, -, hX, hbl, -⟩ := X0
      have kk : ∀ (H1 : Heap) (locs1 : List Loc) (c1 s1 : Nat) (ls1 : Array Slot), lp_K s ar D cL B o a n (i + 4) H1 locs1 c1 s1 → lv_has ls1 7 [(0, .ref b), (1, .ref a), (2, .ref B), (3, .ref o), (4, .int (nI i))] → W p l e room_1 s m #[Value.ref b] below meth c H1 locs1 c1 s1 (lw_Z below #[Value.ref b] s) (F0 m 637 ls1 []) := by
        intro H1 locs1 c1 s1 ls1 hK1 hl1
        have e4 : nI i + Int32.ofInt 4 = nI (i + 4) := nI_4 i
        refine lv_iinc (k := 4) (v := nI (i + 4)) (lv' := [(4, .int (nI (i + 4))), (0, .ref b), (1, .ref a), (2, .ref B), (3, .ref o)]) hx hb dL_law_637 hl1 rfl e4 (by decide) rfl (fun ls2 hl2 => ?_)
        refine lv_goto (tgt := 33) hx hb dL_law_640 (by decide) ?_
        exact ih (i + 4) (by omega) (by omega) (by omega) H1 locs1 c1 s1 ls2 hK1 (lv_sub hl2 [1, 2, 3, 4, 0] rfl)
      refine lv_iload hx hb dL_law_33 (lv_at hl 4 rfl) ?_
      refine lv_aload_n hx hb dL_law_35 rfl (lv_at hl 0 rfl) ?_
      refine va_slen hx hb hX hbl (lb_nA hbl) hS dL_law_36 ?_
      refine lv_iconst (v := 4) hx hb dL_law_37 (by decide) ?_
      refine lv_isub hx hb dL_law_38 ?_
      refine lv_icmp_gt (tgt := 643) hx hb dL_law_39 (by decide) (fun h => absurd ((nI_m4 (by omega) (by omega)).mp h) (by omega)) (fun _ => ?_)
      refine lv_aload_n hx hb dL_law_42 rfl (lv_at hl 0 rfl) ?_
      refine lv_iload hx hb dL_law_43 (lv_at hl 4 rfl) ?_
      have hin0 : vp_in (nI i) L := by
        rintro (h2 | h2)
        · exact nI_pos (by omega) h2
        · rw [nI_clamp (by omega)] at h2
          omega
      refine va_sld hx hb hX hbl (lb_nA hbl) hS hin0 dL_law_45 ?_
      refine lv_bipush (v := 15) hx hb dL_law_46 (by decide) ?_
      refine lv_iand hx hb dL_law_48 ?_
      obtain ⟨j, hj, he⟩ := lb_and (x := xs (nI i).toNatClampNeg)
      rw [he]
      have hjj : j = 0 ∨ j = 1 ∨ j = 2 ∨ j = 3 ∨ j = 4 ∨ j = 5 ∨ j = 6 ∨ j = 7 ∨ j = 8 ∨ j = 9 ∨ j = 10 ∨ j = 11 ∨ j = 12 ∨ j = 13 ∨ j = 14 ∨ j = 15 := by omega
      rcases hjj with rfl | rfl | rfl | rfl | rfl | rfl | rfl | rfl | rfl | rfl | rfl | rfl | rfl | rfl | rfl | rfl
      · exact lv_tableIn (tgt := 124) hx hb dL_law_49 (by decide) (by decide) rfl (by decide) (lbc_submit X hi4 hL hK hl kk)
      · exact lv_tableIn (tgt := 164) hx hb dL_law_49 (by decide) (by decide) rfl (by decide) (lbc_campaign X hi4 hL hK hl kk)
      · exact lv_tableIn (tgt := 192) hx hb dL_law_49 (by decide) (by decide) rfl (by decide) (lbc_deliver X hi4 hL hK hl kk)
      · exact lv_tableIn (tgt := 220) hx hb dL_law_49 (by decide) (by decide) rfl (by decide) (lbc_lose X hi4 hL hK hl kk)
      · exact lv_tableIn (tgt := 248) hx hb dL_law_49 (by decide) (by decide) rfl (by decide) (lbc_repeat X hi4 hL hK hl kk)
      · exact lv_tableIn (tgt := 276) hx hb dL_law_49 (by decide) (by decide) rfl (by decide) (lbc_tick X hi4 hL hK hl kk)
      · exact lv_tableIn (tgt := 287) hx hb dL_law_49 (by decide) (by decide) rfl (by decide) (lbc_run X hi4 hL hK hl kk)
      · exact lv_tableIn (tgt := 315) hx hb dL_law_49 (by decide) (by decide) rfl (by decide) (lbc_crash X hi4 hL hK hl kk)
      · exact lv_tableIn (tgt := 399) hx hb dL_law_49 (by decide) (by decide) rfl (by decide) (lbc_way X hi4 hL hK hl kk)
      · exact lv_tableIn (tgt := 412) hx hb dL_law_49 (by decide) (by decide) rfl (by decide) (lbc_message X hi4 hL hK hl kk)
      · exact lv_tableIn (tgt := 452) hx hb dL_law_49 (by decide) (by decide) rfl (by decide) (lbc_decided X hi4 hL hK hl kk)
      · exact lv_tableIn (tgt := 492) hx hb dL_law_49 (by decide) (by decide) rfl (by decide) (lbc_about X hi4 hL hK hl kk)
      · exact lv_tableIn (tgt := 532) hx hb dL_law_49 (by decide) (by decide) rfl (by decide) (lbc_accepted X hi4 hL hK hl kk)
      · exact lv_tableIn (tgt := 584) hx hb dL_law_49 (by decide) (by decide) rfl (by decide) (lbc_members X hi4 hL hK hl kk)
      · exact lv_tableIn (tgt := 624) hx hb dL_law_49 (by decide) (by decide) rfl (by decide) (lbc_lost X hi4 hL hK hl kk)
      · refine lv_tableOut (tgt := 637) hx hb dL_law_49 (Or.inr (by decide)) (by decide) ?_
        obtain ⟨σ, A, cs, W1, U1, s0, W2, Y, I, ha, I', hfl, hc1, hs1⟩ := hK
        exact kk H locs cells slots ls ⟨σ, A, cs, W1, U1, s0, W2, Y, I, ha, I', hfl, by omega, by omega⟩ hl
end LD
