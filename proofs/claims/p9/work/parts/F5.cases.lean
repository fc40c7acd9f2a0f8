section LO
variable {p : Program} {l : Launch} {e : Env} {s : State} {m : MethodId} {below : List Frame} {meth : Method} {c : Code} {H : Heap} {locs : List Loc} {cells slots : Nat} {Q : State → Prop} {ls : Array Slot} {ar : Nat → ClassId} {D : va_G} {σ σ1 τ : mj_S} {A : tg_T → Nat} {cs : cs_S} {W1 U1 W2 : List Nat} {b a B o n i L : Nat} {cL : ClassId} {xs : Nat → Int32} {s0 s' : rs_S} {rest : List Value}
theorem lb_nA (h : b < s.heap.size) : ¬ lb_A s b := Nat.not_le.mpr h
/-- a boolean out of an int -/
def lb_z (x : Int32) : Int32 := if x = 0 then 0 else 1
theorem lb_z_or {x : Int32} : lb_z x = 0 ∨ lb_z x = 1 := by
  unfold lb_z
  by_cases h : x = 0
  · exact Or.inl (if_pos h)
  · exact Or.inr (if_neg h)
theorem lb_bool {R : Room} {pc : Nat} {args : Array Value} {x : Int32} (hx : p.tables.exec = Jvm.exec) (hb : c.code = cL_law) (d0 : decode cL_law pc = .ok (.ifCond .eq 7, 3)) (d3 : decode cL_law (pc + 3) = .ok (.iconst 1, 1)) (d4 : decode cL_law (pc + 4) = .ok (.goto 4, 3)) (d7 : decode cL_law (pc + 7) = .ok (.iconst 0, 1)) (kk : W p l e R s m args below meth c H locs cells slots Q (F0 m (pc + 8) ls (.int (lb_z x) :: rest))) : W p l e R s m args below meth c H locs cells slots Q (F0 m pc ls (.int x :: rest)) := by
  refine lv_if_eq (tgt := pc + 7) hx hb d0 (by omega) (fun h => ?_) (fun h => ?_)
  · refine lv_iconst (v := 0) hx hb d7 (by decide) ?_
    rw [show lb_z x = 0 from if_pos h] at kk
    exact kk
  · refine lv_iconst (v := 1) hx hb d3 (by decide) ?_
    refine lv_goto (tgt := pc + 8) hx hb d4 (by omega) ?_
    rw [show lb_z x = 1 from if_neg h] at kk
    exact kk
theorem lb_no (Y : lb_Y s ar D cL B o s0 σ H locs) : ¬ mj_A σ o := by
  obtain ⟨⟨hS, hsB, hRf, ho1, ho2⟩, hH, hdom, -⟩ := Y
  rintro (⟨x, hx⟩ | h)
  · exact (hdom o x hx).2.2 rfl
  · rw [hH.1] at h
    omega
theorem lb_no2 (Y : lb_Y s ar D cL B o s0 σ H locs) (hle : mj_le σ τ) : ∀ x, ¬ τ.2.2 o = some x := fun x hx => by
  rcases hle.2.2 o x hx with ⟨y, hy⟩ | h
  · exact lb_no Y (Or.inl ⟨y, hy⟩)
  · exact lb_no Y (Or.inr h)
theorem R_le {k : Nat} {f : mj_F} {r : Option Value ⊕ String} (hr : mj_R (tb ar) k f (r, τ)) : mj_le f.2.2.2 τ := by
  obtain ⟨n, h⟩ := hr
  exact mj_X_le n k _ _ h
/-- the script's int j behind the operation -/
abbrev lb_p (xs : Nat → Int32) (i : Nat) (j : Int32) : Int32 := xs (nI i + j).toNatClampNeg
theorem lb_in {j : Nat} (h : i + j < L) (hL : L ≤ 100000) : vp_in (nI i + nI j) L := by
  rw [nI_add]
  rintro (h1 | h1)
  · exact nI_pos (by omega) h1
  · rw [nI_clamp (by omega)] at h1
    omega
/-- the law's state between calls: i ints of the script are read -/
def lp_K (s : State) (ar : Nat → ClassId) (D : va_G) (cL : ClassId) (B o a n i : Nat) (H : Heap) (locs : List Loc) (cells slots : Nat) : Prop := ∃ (σ : mj_S) (A : tg_T → Nat) (cs : cs_S) (W1 U1 : List Nat) (s0 : rs_S) (W2 : List Nat), lb_Y s ar D cL B o s0 σ H locs ∧ ct_I ar A cs σ W1 [] U1 [] ∧ (A (0, 0) = a ∧ cs.1 = n) ∧ rs_I s0 n W2 ∧ (∀ j, j < 2 * n - 1 → (cs_v cs 9 j 1 = 0 ↔ s0.2 1 j = 0)) ∧ cells ≤ 500 + ct_1 cs + i ∧ slots ≤ 131000 + ct_2 cs + 6 * i
theorem I_at (I : ct_I ar A cs τ W1 [] U1 []) {z q : Nat} (hz : τ.1 ≤ z) : ct_I ar A cs (z, q, τ.2.2) W1 [] U1 [] := ⟨⟨I.1.1, I.1.2.1, fun t x h => Nat.lt_of_lt_of_le (I.1.2.2 t x h) hz⟩, I.2⟩
theorem cs_n4 (I : ct_I ar A cs σ W1 [] U1 []) (hn : cs.1 = n) : n = 2 ∨ n = 3 ∨ n = 4 ∨ n = 5 := by
  have h1 := I.2.1.1
  have h2 := I.2.1.2.1
  omega
theorem ct_rm (I : ct_I ar A cs σ W1 [] U1 []) : ct_1 cs ≤ 2404 ∧ ct_2 cs ≤ 126811 := ct_le I.2.2.1.2.2.2.2.2.2.1.2
theorem cI_0 (I : ct_I ar A cs σ W1 [] U1 []) : ∃ fs, σ.2.2 (A (0, 0)) = some (.inr (9, fs)) := ⟨_, cs_g (k := 0) (i := 0) I.1 rfl⟩
/-- what a call of the class comes to, for the law -/
def cl_Q (E : List String) (ar : Nat → ClassId) (A : tg_T → Nat) (cs : cs_S) (σ : mj_S) : (Option Value ⊕ String) → mj_S → Prop := fun r τ => (∃ v : Int32, r = .inl (some (.int v)) ∧ ct_Z ar A cs σ τ) ∨ ∃ x ∈ E, r = .inr x ∧ τ = σ
theorem lkr_submit : Cond.methodLink RL 70 (tb_Y 110) ∈ tb_W := by decide +kernel
theorem gL_submit : GoodIn lw_tbl (va_wsS RL 67 yL_submit (wr_ws yL_submit cL_submit 5 [(0, 10, 13, 13), (0, 10, 17, 15), (0, 10, 21, 17)])) := wr_G (by decide +kernel) (by decide +kernel) (by decide +kernel) (by decide +kernel)
theorem lbr_submit {k : Int32} (X : lb_X p l s m meth c b L xs ar D cL) (hi : i + 4 ≤ L) (hL : L ≤ 2049) (hK : lp_K s ar D cL B o a n (i + 4) H locs cells slots) (hl : lv_has ls 7 [(0, .ref b), (1, .ref a), (2, .ref B), (3, .ref o), (4, .int (nI i))]) (kk : ∀ (H1 : Heap) (locs1 : List Loc) (c1 s1 : Nat) (ls1 : Array Slot), lp_K s ar D cL B o a n (i + 4) H1 locs1 c1 s1 → lv_has ls1 7 [(0, .ref b), (1, .ref a), (2, .ref B), (3, .ref o), (4, .int (nI i))] → W p l e room_1 s m #[Value.ref b] below meth c H1 locs1 c1 s1 Q (F0 m 637 ls1 [])) : W p l e room_1 s m #[Value.ref b] below meth c H locs cells slots Q (F0 m 141 ls [.int k]) := by
  have X0 := X
  obtain ⟨⟨hx, hb, -⟩, -, -, hX, hbl, -⟩ := X0
  obtain ⟨σ, A, cs, W1, U1, s0, W2, Y, I, ⟨ha, hn⟩, I', hfl, hc, hs⟩ := hK
  have hn4 := cs_n4 I hn
  obtain ⟨rm1, rm2⟩ := ct_rm I
  refine lv_istore (lv' := (5, .int k) :: [(0, .ref b), (1, .ref a), (2, .ref B), (3, .ref o), (4, .int (nI i))]) hx hb dL_law_141 hl (by decide) rfl (fun ls hl => ?_)
  refine lv_aload_n hx hb dL_law_143 rfl (lv_at hl 3 rfl) ?_
  refine lv_aload_n hx hb dL_law_144 rfl (lv_at hl 1 rfl) ?_
  refine lv_iload hx hb dL_law_145 (lv_at hl 5 rfl) ?_
  refine lv_iconst (v := 1) hx hb dL_law_147 (by decide) ?_
  refine lv_iadd hx hb dL_law_148 ?_
  refine va_sld hx hb hX hbl (lb_nA hbl) Y.1.1 (lb_in (j := 1) (by omega) (by omega)) dL_law_149 ?_
  refine lv_aload_n hx hb dL_law_150 rfl (lv_at hl 1 rfl) ?_
  refine lv_iload hx hb dL_law_151 (lv_at hl 5 rfl) ?_
  refine lv_iconst (v := 2) hx hb dL_law_153 (by decide) ?_
  refine lv_iadd hx hb dL_law_154 ?_
  refine va_sld hx hb hX hbl (lb_nA hbl) Y.1.1 (lb_in (j := 2) (by omega) (by omega)) dL_law_155 ?_
  have hwp : mj_wp (tb ar) 110 (mj_en (tb ar) 110 (.ref B :: [.int (lb_p xs i 1), .int (lb_p xs i 2)]) (rs_st ar B H.size 0 s0)) (fun r τ => ∃ (v : Int32) (s' : rs_S), r = .inl (some (.int v)) ∧ τ = rs_st ar B H.size 0 s' ∧ rs_Zc s0 n s') := by
    have hZ : ∀ (r : Int32) (s' : rs_S), rs_Zc s0 n s' → ∃ (v : Int32) (s'' : rs_S), (Sum.inl (some (Value.int r)) : Option Value ⊕ String) = .inl (some (.int v)) ∧ rs_st ar B H.size 0 s' = rs_st ar B H.size 0 s'' ∧ rs_Zc s0 n s'' := fun r s' h => ⟨r, s', rfl, rfl, h⟩
    exact R_submit hn4 I' (fun s' r h => hZ r s' h)
  obtain ⟨⟨r9, τ9⟩, hR, v, s', e1, e2, ⟨W3, I3⟩, e3⟩ := hwp
  dsimp only at e1 e2
  subst e1
  subst e2
  refine lb_VY (kr := 110) (As := [.int (lb_p xs i 1), .int (lb_p xs i 2)]) (rest := []) X Y hR (by decide) rfl rfl rfl (Nat.le_of_ble_eq_true rfl) (fun w hw => by simp only [List.mem_cons, List.not_mem_nil, or_false] at hw; rcases hw with rfl | rfl <;> rfl) lkr_submit ⟨Nat.le_of_ble_eq_true rfl, Nat.le_of_ble_eq_true rfl⟩ hl.1 (Nat.le_of_ble_eq_true rfl) dL_law_156 ⟨rm_c (show cells ≤ 590000 by omega), rm_s (show slots ≤ 7150000 by omega)⟩ (fun H1 locs1 Y1 ho => ?_)
  refine lv_istore (lv' := (6, .int v) :: (5, .int k) :: [(0, .ref b), (1, .ref a), (2, .ref B), (3, .ref o), (4, .int (nI i))]) hx hb dL_law_159 hl (by decide) rfl (fun ls hl => ?_)
  refine lv_goto (tgt := 637) hx hb dL_law_161 (by decide) ?_
  exact kk H1 locs1 cells slots ls ⟨σ, A, cs, W1, U1, s', W3, Y1, I, ⟨ha, hn⟩, I3, fun j hj => by rw [e3]; exact hfl j hj, hc, hs⟩ (lv_sub hl [2, 3, 4, 5, 6] rfl)
theorem lbc_submit (X : lb_X p l s m meth c b L xs ar D cL) (hi : i + 4 ≤ L) (hL : L ≤ 2049) (hK : lp_K s ar D cL B o a n i H locs cells slots) (hl : lv_has ls 7 [(0, .ref b), (1, .ref a), (2, .ref B), (3, .ref o), (4, .int (nI i))]) (kk : ∀ (H1 : Heap) (locs1 : List Loc) (c1 s1 : Nat) (ls1 : Array Slot), lp_K s ar D cL B o a n (i + 4) H1 locs1 c1 s1 → lv_has ls1 7 [(0, .ref b), (1, .ref a), (2, .ref B), (3, .ref o), (4, .int (nI i))] → W p l e room_1 s m #[Value.ref b] below meth c H1 locs1 c1 s1 Q (F0 m 637 ls1 [])) : W p l e room_1 s m #[Value.ref b] below meth c H locs cells slots Q (F0 m 124 ls []) := by
  have X0 := X
  obtain ⟨⟨hx, hb, -⟩, -, -, hX, hbl, -, -, -, -, hlt⟩ := X0
  obtain ⟨σ, A, cs, W1, U1, s0, W2, Y, I, ⟨ha, hn⟩, I', hfl, hc, hs⟩ := hK
  subst ha
  obtain ⟨rm1, rm2⟩ := ct_rm I
  obtain ⟨fs, hb1⟩ := cI_0 I
  refine lv_aload_n hx hb dL_law_124 rfl (lv_at hl 1 rfl) ?_
  refine lv_aload_n hx hb dL_law_125 rfl (lv_at hl 0 rfl) ?_
  refine lv_iload hx hb dL_law_126 (lv_at hl 4 rfl) ?_
  refine lv_iconst (v := 1) hx hb dL_law_128 (by decide) ?_
  refine lv_iadd hx hb dL_law_129 ?_
  refine va_sld hx hb hX hbl (lb_nA hbl) Y.1.1 (lb_in (j := 1) (by omega) (by omega)) dL_law_130 ?_
  refine lv_aload_n hx hb dL_law_131 rfl (lv_at hl 0 rfl) ?_
  refine lv_iload hx hb dL_law_132 (lv_at hl 4 rfl) ?_
  refine lv_iconst (v := 2) hx hb dL_law_134 (by decide) ?_
  refine lv_iadd hx hb dL_law_135 ?_
  refine va_sld hx hb hX hbl (lb_nA hbl) Y.1.1 (lb_in (j := 2) (by omega) (by omega)) dL_law_136 ?_
  refine lv_aload_n hx hb dL_law_137 rfl (lv_at hl 3 rfl) ?_
  have hwp : mj_wp (tb ar) 42 (mj_en (tb ar) 42 (.ref (A (0, 0)) :: [.int (lb_p xs i 1), .int (lb_p xs i 2)]) σ) (cl_Q [x_ix, x_ar, x_st] ar A cs σ) := C_submit I (Or.inr ⟨x_ix, List.mem_cons_self, rfl, rfl⟩) (Or.inr ⟨x_ar, List.mem_cons_of_mem _ List.mem_cons_self, rfl, rfl⟩) (Or.inr ⟨x_st, List.mem_cons_of_mem _ (List.mem_cons_of_mem _ List.mem_cons_self), rfl, rfl⟩) (fun τ r h => Or.inl ⟨r, rfl, h⟩)
  obtain ⟨⟨r9, τ⟩, hr, hcl⟩ := hwp
  dsimp only at hcl
  rcases hcl with ⟨v, e1, A1, cs1, W3, U3, I1, D1⟩ | ⟨x9, hx9, e1, e2⟩
  · subst e1
    have hle : mj_le σ τ := R_le hr
    obtain ⟨rm3, rm4⟩ := ct_rm I1
    have ac := D1.1.2.2.2.2
    have h1 := hle.1
    have h2 := hle.2.1
    refine lw_S (as := [.ref (A (0, 0)), .int (lb_p xs i 1), .int (lb_p xs i 2), .ref o]) (rest := []) (na := 4) (kc := 42) X Y (Lr_submit hr hb1 (lb_no Y) (lb_no2 Y hle)) wr_blind (fun _ _ q => q.1) gL_submit ⟨by decide, by decide, by decide⟩ ⟨Nat.le_of_ble_eq_true rfl, Nat.le_of_ble_eq_true rfl⟩ rfl hl.1 (Nat.le_of_ble_eq_true rfl) dL_law_138 ⟨rm_c (show cells + (τ.1 - σ.1) ≤ 590000 by omega), rm_s (show slots + (τ.2.1 - σ.2.1) ≤ 7150000 by omega)⟩ (fun H1 locs1 Z1 hK hz => ?_)
    exact lbr_submit X hi hL ⟨(H1.size, 0, τ.2.2), A1, cs1, W3, U3, s0, W2, lb_Yn Y Z1 hle hz hK.2.1, I_at I1 hK.2.2, ⟨D1.1.1 0 0 (by decide), D1.1.2.2.1.trans hn⟩, I', fun j hj => by rw [D1.2.1 j]; exact hfl j hj, by omega, by omega⟩ hl kk
  · subst e2
    simp only [List.mem_cons, List.not_mem_nil, or_false] at hx9
    rcases hx9 with rfl | rfl | rfl
    · subst e1
      refine lw_S (as := [.ref (A (0, 0)), .int (lb_p xs i 1), .int (lb_p xs i 2), .ref o]) (rest := []) (na := 4) (kc := 42) X Y (Lx_submit_x_ix hlt hr hb1 (lb_no Y)) wr_blindX (fun _ _ q => q) gL_submit ⟨by decide, by decide, by decide⟩ ⟨Nat.le_of_ble_eq_true rfl, Nat.le_of_ble_eq_true rfl⟩ rfl hl.1 (Nat.le_of_ble_eq_true rfl) dL_law_138 ⟨rm_c (show cells + (τ.1 - τ.1 + 1) ≤ 590000 by omega), rm_s (show slots + (τ.2.1 - τ.2.1 + 6) ≤ 7150000 by omega)⟩ (fun H1 locs1 Z1 hK hz => ?_)
      exact lbr_submit X hi hL ⟨(H1.size, 0, τ.2.2), A, cs, W1, U1, s0, W2, lb_Yn Y Z1 mj_le.rf hz hK, I_at I (by rw [Y.2.1.1]; exact hz), ⟨rfl, hn⟩, I', hfl, by omega, by omega⟩ hl kk
    · subst e1
      refine lw_S (as := [.ref (A (0, 0)), .int (lb_p xs i 1), .int (lb_p xs i 2), .ref o]) (rest := []) (na := 4) (kc := 42) X Y (Lx_submit_x_ar hlt hr hb1 (lb_no Y)) wr_blindX (fun _ _ q => q) gL_submit ⟨by decide, by decide, by decide⟩ ⟨Nat.le_of_ble_eq_true rfl, Nat.le_of_ble_eq_true rfl⟩ rfl hl.1 (Nat.le_of_ble_eq_true rfl) dL_law_138 ⟨rm_c (show cells + (τ.1 - τ.1 + 1) ≤ 590000 by omega), rm_s (show slots + (τ.2.1 - τ.2.1 + 6) ≤ 7150000 by omega)⟩ (fun H1 locs1 Z1 hK hz => ?_)
      exact lbr_submit X hi hL ⟨(H1.size, 0, τ.2.2), A, cs, W1, U1, s0, W2, lb_Yn Y Z1 mj_le.rf hz hK, I_at I (by rw [Y.2.1.1]; exact hz), ⟨rfl, hn⟩, I', hfl, by omega, by omega⟩ hl kk
    · subst e1
      refine lw_S (as := [.ref (A (0, 0)), .int (lb_p xs i 1), .int (lb_p xs i 2), .ref o]) (rest := []) (na := 4) (kc := 42) X Y (Lx_submit_x_st hlt hr hb1 (lb_no Y)) wr_blindX (fun _ _ q => q) gL_submit ⟨by decide, by decide, by decide⟩ ⟨Nat.le_of_ble_eq_true rfl, Nat.le_of_ble_eq_true rfl⟩ rfl hl.1 (Nat.le_of_ble_eq_true rfl) dL_law_138 ⟨rm_c (show cells + (τ.1 - τ.1 + 1) ≤ 590000 by omega), rm_s (show slots + (τ.2.1 - τ.2.1 + 6) ≤ 7150000 by omega)⟩ (fun H1 locs1 Z1 hK hz => ?_)
      exact lbr_submit X hi hL ⟨(H1.size, 0, τ.2.2), A, cs, W1, U1, s0, W2, lb_Yn Y Z1 mj_le.rf hz hK, I_at I (by rw [Y.2.1.1]; exact hz), ⟨rfl, hn⟩, I', hfl, by omega, by omega⟩ hl kk
theorem lkr_campaign : Cond.methodLink RL 74 (tb_Y 111) ∈ tb_W := by decide +kernel
theorem gL_campaign : GoodIn lw_tbl (va_wsS RL 71 yL_campaign (wr_ws yL_campaign cL_campaign 4 [(0, 9, 12, 13), (0, 9, 15, 17)])) := wr_G (by decide +kernel) (by decide +kernel) (by decide +kernel) (by decide +kernel)
theorem lbr_campaign {k : Int32} (X : lb_X p l s m meth c b L xs ar D cL) (hi : i + 4 ≤ L) (hL : L ≤ 2049) (hK : lp_K s ar D cL B o a n (i + 4) H locs cells slots) (hl : lv_has ls 7 [(0, .ref b), (1, .ref a), (2, .ref B), (3, .ref o), (4, .int (nI i))]) (kk : ∀ (H1 : Heap) (locs1 : List Loc) (c1 s1 : Nat) (ls1 : Array Slot), lp_K s ar D cL B o a n (i + 4) H1 locs1 c1 s1 → lv_has ls1 7 [(0, .ref b), (1, .ref a), (2, .ref B), (3, .ref o), (4, .int (nI i))] → W p l e room_1 s m #[Value.ref b] below meth c H1 locs1 c1 s1 Q (F0 m 637 ls1 [])) : W p l e room_1 s m #[Value.ref b] below meth c H locs cells slots Q (F0 m 175 ls [.int k]) := by
  have X0 := X
  obtain ⟨⟨hx, hb, -⟩, -, -, hX, hbl, -⟩ := X0
  obtain ⟨σ, A, cs, W1, U1, s0, W2, Y, I, ⟨ha, hn⟩, I', hfl, hc, hs⟩ := hK
  have hn4 := cs_n4 I hn
  obtain ⟨rm1, rm2⟩ := ct_rm I
  refine lv_istore (lv' := (5, .int k) :: [(0, .ref b), (1, .ref a), (2, .ref B), (3, .ref o), (4, .int (nI i))]) hx hb dL_law_175 hl (by decide) rfl (fun ls hl => ?_)
  refine lv_aload_n hx hb dL_law_177 rfl (lv_at hl 3 rfl) ?_
  refine lv_aload_n hx hb dL_law_178 rfl (lv_at hl 1 rfl) ?_
  refine lv_iload hx hb dL_law_179 (lv_at hl 5 rfl) ?_
  refine lv_iconst (v := 1) hx hb dL_law_181 (by decide) ?_
  refine lv_iadd hx hb dL_law_182 ?_
  refine va_sld hx hb hX hbl (lb_nA hbl) Y.1.1 (lb_in (j := 1) (by omega) (by omega)) dL_law_183 ?_
  have hwp : mj_wp (tb ar) 111 (mj_en (tb ar) 111 (.ref B :: [.int (lb_p xs i 1)]) (rs_st ar B H.size 0 s0)) (fun r τ => ∃ (v : Int32) (s' : rs_S), r = .inl (some (.int v)) ∧ τ = rs_st ar B H.size 0 s' ∧ rs_Zc s0 n s') := by
    have hZ : ∀ (r : Int32) (s' : rs_S), rs_Zc s0 n s' → ∃ (v : Int32) (s'' : rs_S), (Sum.inl (some (Value.int r)) : Option Value ⊕ String) = .inl (some (.int v)) ∧ rs_st ar B H.size 0 s' = rs_st ar B H.size 0 s'' ∧ rs_Zc s0 n s'' := fun r s' h => ⟨r, s', rfl, rfl, h⟩
    exact R_campaign hn4 I' (fun s' r h => hZ r s' h)
  obtain ⟨⟨r9, τ9⟩, hR, v, s', e1, e2, ⟨W3, I3⟩, e3⟩ := hwp
  dsimp only at e1 e2
  subst e1
  subst e2
  refine lb_VY (kr := 111) (As := [.int (lb_p xs i 1)]) (rest := []) X Y hR (by decide) rfl rfl rfl (Nat.le_of_ble_eq_true rfl) (fun w hw => by simp only [List.mem_cons, List.not_mem_nil, or_false] at hw; subst hw; rfl) lkr_campaign ⟨Nat.le_of_ble_eq_true rfl, Nat.le_of_ble_eq_true rfl⟩ hl.1 (Nat.le_of_ble_eq_true rfl) dL_law_184 ⟨rm_c (show cells ≤ 590000 by omega), rm_s (show slots ≤ 7150000 by omega)⟩ (fun H1 locs1 Y1 ho => ?_)
  refine lv_istore (lv' := (6, .int v) :: (5, .int k) :: [(0, .ref b), (1, .ref a), (2, .ref B), (3, .ref o), (4, .int (nI i))]) hx hb dL_law_187 hl (by decide) rfl (fun ls hl => ?_)
  refine lv_goto (tgt := 637) hx hb dL_law_189 (by decide) ?_
  exact kk H1 locs1 cells slots ls ⟨σ, A, cs, W1, U1, s', W3, Y1, I, ⟨ha, hn⟩, I3, fun j hj => by rw [e3]; exact hfl j hj, hc, hs⟩ (lv_sub hl [2, 3, 4, 5, 6] rfl)
theorem lbc_campaign (X : lb_X p l s m meth c b L xs ar D cL) (hi : i + 4 ≤ L) (hL : L ≤ 2049) (hK : lp_K s ar D cL B o a n i H locs cells slots) (hl : lv_has ls 7 [(0, .ref b), (1, .ref a), (2, .ref B), (3, .ref o), (4, .int (nI i))]) (kk : ∀ (H1 : Heap) (locs1 : List Loc) (c1 s1 : Nat) (ls1 : Array Slot), lp_K s ar D cL B o a n (i + 4) H1 locs1 c1 s1 → lv_has ls1 7 [(0, .ref b), (1, .ref a), (2, .ref B), (3, .ref o), (4, .int (nI i))] → W p l e room_1 s m #[Value.ref b] below meth c H1 locs1 c1 s1 Q (F0 m 637 ls1 [])) : W p l e room_1 s m #[Value.ref b] below meth c H locs cells slots Q (F0 m 164 ls []) := by
  have X0 := X
  obtain ⟨⟨hx, hb, -⟩, -, -, hX, hbl, -, -, -, -, hlt⟩ := X0
  obtain ⟨σ, A, cs, W1, U1, s0, W2, Y, I, ⟨ha, hn⟩, I', hfl, hc, hs⟩ := hK
  subst ha
  obtain ⟨rm1, rm2⟩ := ct_rm I
  obtain ⟨fs, hb1⟩ := cI_0 I
  refine lv_aload_n hx hb dL_law_164 rfl (lv_at hl 1 rfl) ?_
  refine lv_aload_n hx hb dL_law_165 rfl (lv_at hl 0 rfl) ?_
  refine lv_iload hx hb dL_law_166 (lv_at hl 4 rfl) ?_
  refine lv_iconst (v := 1) hx hb dL_law_168 (by decide) ?_
  refine lv_iadd hx hb dL_law_169 ?_
  refine va_sld hx hb hX hbl (lb_nA hbl) Y.1.1 (lb_in (j := 1) (by omega) (by omega)) dL_law_170 ?_
  refine lv_aload_n hx hb dL_law_171 rfl (lv_at hl 3 rfl) ?_
  have hwp : mj_wp (tb ar) 43 (mj_en (tb ar) 43 (.ref (A (0, 0)) :: [.int (lb_p xs i 1)]) σ) (cl_Q [x_ix, x_st] ar A cs σ) := C_campaign I (Or.inr ⟨x_ix, List.mem_cons_self, rfl, rfl⟩) (Or.inr ⟨x_st, List.mem_cons_of_mem _ List.mem_cons_self, rfl, rfl⟩) (fun τ r h => Or.inl ⟨r, rfl, h⟩)
  obtain ⟨⟨r9, τ⟩, hr, hcl⟩ := hwp
  dsimp only at hcl
  rcases hcl with ⟨v, e1, A1, cs1, W3, U3, I1, D1⟩ | ⟨x9, hx9, e1, e2⟩
  · subst e1
    have hle : mj_le σ τ := R_le hr
    obtain ⟨rm3, rm4⟩ := ct_rm I1
    have ac := D1.1.2.2.2.2
    have h1 := hle.1
    have h2 := hle.2.1
    refine lw_S (as := [.ref (A (0, 0)), .int (lb_p xs i 1), .ref o]) (rest := []) (na := 3) (kc := 43) X Y (Lr_campaign hr hb1 (lb_no Y) (lb_no2 Y hle)) wr_blind (fun _ _ q => q.1) gL_campaign ⟨by decide, by decide, by decide⟩ ⟨Nat.le_of_ble_eq_true rfl, Nat.le_of_ble_eq_true rfl⟩ rfl hl.1 (Nat.le_of_ble_eq_true rfl) dL_law_172 ⟨rm_c (show cells + (τ.1 - σ.1) ≤ 590000 by omega), rm_s (show slots + (τ.2.1 - σ.2.1) ≤ 7150000 by omega)⟩ (fun H1 locs1 Z1 hK hz => ?_)
    exact lbr_campaign X hi hL ⟨(H1.size, 0, τ.2.2), A1, cs1, W3, U3, s0, W2, lb_Yn Y Z1 hle hz hK.2.1, I_at I1 hK.2.2, ⟨D1.1.1 0 0 (by decide), D1.1.2.2.1.trans hn⟩, I', fun j hj => by rw [D1.2.1 j]; exact hfl j hj, by omega, by omega⟩ hl kk
  · subst e2
    simp only [List.mem_cons, List.not_mem_nil, or_false] at hx9
    rcases hx9 with rfl | rfl
    · subst e1
      refine lw_S (as := [.ref (A (0, 0)), .int (lb_p xs i 1), .ref o]) (rest := []) (na := 3) (kc := 43) X Y (Lx_campaign_x_ix hlt hr hb1 (lb_no Y)) wr_blindX (fun _ _ q => q) gL_campaign ⟨by decide, by decide, by decide⟩ ⟨Nat.le_of_ble_eq_true rfl, Nat.le_of_ble_eq_true rfl⟩ rfl hl.1 (Nat.le_of_ble_eq_true rfl) dL_law_172 ⟨rm_c (show cells + (τ.1 - τ.1 + 1) ≤ 590000 by omega), rm_s (show slots + (τ.2.1 - τ.2.1 + 6) ≤ 7150000 by omega)⟩ (fun H1 locs1 Z1 hK hz => ?_)
      exact lbr_campaign X hi hL ⟨(H1.size, 0, τ.2.2), A, cs, W1, U1, s0, W2, lb_Yn Y Z1 mj_le.rf hz hK, I_at I (by rw [Y.2.1.1]; exact hz), ⟨rfl, hn⟩, I', hfl, by omega, by omega⟩ hl kk
    · subst e1
      refine lw_S (as := [.ref (A (0, 0)), .int (lb_p xs i 1), .ref o]) (rest := []) (na := 3) (kc := 43) X Y (Lx_campaign_x_st hlt hr hb1 (lb_no Y)) wr_blindX (fun _ _ q => q) gL_campaign ⟨by decide, by decide, by decide⟩ ⟨Nat.le_of_ble_eq_true rfl, Nat.le_of_ble_eq_true rfl⟩ rfl hl.1 (Nat.le_of_ble_eq_true rfl) dL_law_172 ⟨rm_c (show cells + (τ.1 - τ.1 + 1) ≤ 590000 by omega), rm_s (show slots + (τ.2.1 - τ.2.1 + 6) ≤ 7150000 by omega)⟩ (fun H1 locs1 Z1 hK hz => ?_)
      exact lbr_campaign X hi hL ⟨(H1.size, 0, τ.2.2), A, cs, W1, U1, s0, W2, lb_Yn Y Z1 mj_le.rf hz hK, I_at I (by rw [Y.2.1.1]; exact hz), ⟨rfl, hn⟩, I', hfl, by omega, by omega⟩ hl kk
theorem lkr_deliver : Cond.methodLink RL 77 (tb_Y 115) ∈ tb_W := by decide +kernel
theorem gL_deliver : GoodIn lw_tbl (va_wsS RL 75 yL_deliver (wr_ws yL_deliver cL_deliver 4 [(0, 9, 12, 13)])) := wr_G (by decide +kernel) (by decide +kernel) (by decide +kernel) (by decide +kernel)
theorem lbr_deliver {k : Int32} (X : lb_X p l s m meth c b L xs ar D cL) (hi : i + 4 ≤ L) (hL : L ≤ 2049) (hK : lp_K s ar D cL B o a n (i + 4) H locs cells slots) (hl : lv_has ls 7 [(0, .ref b), (1, .ref a), (2, .ref B), (3, .ref o), (4, .int (nI i))]) (kk : ∀ (H1 : Heap) (locs1 : List Loc) (c1 s1 : Nat) (ls1 : Array Slot), lp_K s ar D cL B o a n (i + 4) H1 locs1 c1 s1 → lv_has ls1 7 [(0, .ref b), (1, .ref a), (2, .ref B), (3, .ref o), (4, .int (nI i))] → W p l e room_1 s m #[Value.ref b] below meth c H1 locs1 c1 s1 Q (F0 m 637 ls1 [])) : W p l e room_1 s m #[Value.ref b] below meth c H locs cells slots Q (F0 m 203 ls [.int k]) := by
  have X0 := X
  obtain ⟨⟨hx, hb, -⟩, -, -, hX, hbl, -⟩ := X0
  obtain ⟨σ, A, cs, W1, U1, s0, W2, Y, I, ⟨ha, hn⟩, I', hfl, hc, hs⟩ := hK
  have hn4 := cs_n4 I hn
  obtain ⟨rm1, rm2⟩ := ct_rm I
  refine lv_istore (lv' := (5, .int k) :: [(0, .ref b), (1, .ref a), (2, .ref B), (3, .ref o), (4, .int (nI i))]) hx hb dL_law_203 hl (by decide) rfl (fun ls hl => ?_)
  refine lv_aload_n hx hb dL_law_205 rfl (lv_at hl 3 rfl) ?_
  refine lv_aload_n hx hb dL_law_206 rfl (lv_at hl 1 rfl) ?_
  refine lv_iload hx hb dL_law_207 (lv_at hl 5 rfl) ?_
  refine lv_iconst (v := 1) hx hb dL_law_209 (by decide) ?_
  refine lv_iadd hx hb dL_law_210 ?_
  refine va_sld hx hb hX hbl (lb_nA hbl) Y.1.1 (lb_in (j := 1) (by omega) (by omega)) dL_law_211 ?_
  have hwp : mj_wp (tb ar) 115 (mj_en (tb ar) 115 (.ref B :: [.int (lb_p xs i 1)]) (rs_st ar B H.size 0 s0)) (fun r τ => ∃ (v : Int32) (s' : rs_S), r = .inl (some (.int v)) ∧ τ = rs_st ar B H.size 0 s' ∧ rs_Zc s0 n s') := by
    have hZ : ∀ (r : Int32) (s' : rs_S), rs_Zc s0 n s' → ∃ (v : Int32) (s'' : rs_S), (Sum.inl (some (Value.int r)) : Option Value ⊕ String) = .inl (some (.int v)) ∧ rs_st ar B H.size 0 s' = rs_st ar B H.size 0 s'' ∧ rs_Zc s0 n s'' := fun r s' h => ⟨r, s', rfl, rfl, h⟩
    exact R_deliver hn4 I' (fun s' r h => hZ r s' h)
  obtain ⟨⟨r9, τ9⟩, hR, v, s', e1, e2, ⟨W3, I3⟩, e3⟩ := hwp
  dsimp only at e1 e2
  subst e1
  subst e2
  refine lb_VY (kr := 115) (As := [.int (lb_p xs i 1)]) (rest := []) X Y hR (by decide) rfl rfl rfl (Nat.le_of_ble_eq_true rfl) (fun w hw => by simp only [List.mem_cons, List.not_mem_nil, or_false] at hw; subst hw; rfl) lkr_deliver ⟨Nat.le_of_ble_eq_true rfl, Nat.le_of_ble_eq_true rfl⟩ hl.1 (Nat.le_of_ble_eq_true rfl) dL_law_212 ⟨rm_c (show cells ≤ 590000 by omega), rm_s (show slots ≤ 7150000 by omega)⟩ (fun H1 locs1 Y1 ho => ?_)
  refine lv_istore (lv' := (6, .int v) :: (5, .int k) :: [(0, .ref b), (1, .ref a), (2, .ref B), (3, .ref o), (4, .int (nI i))]) hx hb dL_law_215 hl (by decide) rfl (fun ls hl => ?_)
  refine lv_goto (tgt := 637) hx hb dL_law_217 (by decide) ?_
  exact kk H1 locs1 cells slots ls ⟨σ, A, cs, W1, U1, s', W3, Y1, I, ⟨ha, hn⟩, I3, fun j hj => by rw [e3]; exact hfl j hj, hc, hs⟩ (lv_sub hl [2, 3, 4, 5, 6] rfl)
theorem lbc_deliver (X : lb_X p l s m meth c b L xs ar D cL) (hi : i + 4 ≤ L) (hL : L ≤ 2049) (hK : lp_K s ar D cL B o a n i H locs cells slots) (hl : lv_has ls 7 [(0, .ref b), (1, .ref a), (2, .ref B), (3, .ref o), (4, .int (nI i))]) (kk : ∀ (H1 : Heap) (locs1 : List Loc) (c1 s1 : Nat) (ls1 : Array Slot), lp_K s ar D cL B o a n (i + 4) H1 locs1 c1 s1 → lv_has ls1 7 [(0, .ref b), (1, .ref a), (2, .ref B), (3, .ref o), (4, .int (nI i))] → W p l e room_1 s m #[Value.ref b] below meth c H1 locs1 c1 s1 Q (F0 m 637 ls1 [])) : W p l e room_1 s m #[Value.ref b] below meth c H locs cells slots Q (F0 m 192 ls []) := by
  have X0 := X
  obtain ⟨⟨hx, hb, -⟩, -, -, hX, hbl, -, -, -, -, hlt⟩ := X0
  obtain ⟨σ, A, cs, W1, U1, s0, W2, Y, I, ⟨ha, hn⟩, I', hfl, hc, hs⟩ := hK
  subst ha
  obtain ⟨rm1, rm2⟩ := ct_rm I
  obtain ⟨fs, hb1⟩ := cI_0 I
  refine lv_aload_n hx hb dL_law_192 rfl (lv_at hl 1 rfl) ?_
  refine lv_aload_n hx hb dL_law_193 rfl (lv_at hl 0 rfl) ?_
  refine lv_iload hx hb dL_law_194 (lv_at hl 4 rfl) ?_
  refine lv_iconst (v := 1) hx hb dL_law_196 (by decide) ?_
  refine lv_iadd hx hb dL_law_197 ?_
  refine va_sld hx hb hX hbl (lb_nA hbl) Y.1.1 (lb_in (j := 1) (by omega) (by omega)) dL_law_198 ?_
  refine lv_aload_n hx hb dL_law_199 rfl (lv_at hl 3 rfl) ?_
  have hwp : mj_wp (tb ar) 44 (mj_en (tb ar) 44 (.ref (A (0, 0)) :: [.int (lb_p xs i 1)]) σ) (cl_Q [x_ix] ar A cs σ) := C_deliver I (fun _ => (Or.inr ⟨x_ix, List.mem_cons_self, rfl, rfl⟩)) (fun τ r h => Or.inl ⟨r, rfl, h⟩)
  obtain ⟨⟨r9, τ⟩, hr, hcl⟩ := hwp
  dsimp only at hcl
  rcases hcl with ⟨v, e1, A1, cs1, W3, U3, I1, D1⟩ | ⟨x9, hx9, e1, e2⟩
  · subst e1
    have hle : mj_le σ τ := R_le hr
    obtain ⟨rm3, rm4⟩ := ct_rm I1
    have ac := D1.1.2.2.2.2
    have h1 := hle.1
    have h2 := hle.2.1
    refine lw_S (as := [.ref (A (0, 0)), .int (lb_p xs i 1), .ref o]) (rest := []) (na := 3) (kc := 44) X Y (Lr_deliver hr hb1 (lb_no Y) (lb_no2 Y hle)) wr_blind (fun _ _ q => q.1) gL_deliver ⟨by decide, by decide, by decide⟩ ⟨Nat.le_of_ble_eq_true rfl, Nat.le_of_ble_eq_true rfl⟩ rfl hl.1 (Nat.le_of_ble_eq_true rfl) dL_law_200 ⟨rm_c (show cells + (τ.1 - σ.1) ≤ 590000 by omega), rm_s (show slots + (τ.2.1 - σ.2.1) ≤ 7150000 by omega)⟩ (fun H1 locs1 Z1 hK hz => ?_)
    exact lbr_deliver X hi hL ⟨(H1.size, 0, τ.2.2), A1, cs1, W3, U3, s0, W2, lb_Yn Y Z1 hle hz hK.2.1, I_at I1 hK.2.2, ⟨D1.1.1 0 0 (by decide), D1.1.2.2.1.trans hn⟩, I', fun j hj => by rw [D1.2.1 j]; exact hfl j hj, by omega, by omega⟩ hl kk
  · subst e2
    simp only [List.mem_cons, List.not_mem_nil, or_false] at hx9
    subst hx9
    subst e1
    refine lw_S (as := [.ref (A (0, 0)), .int (lb_p xs i 1), .ref o]) (rest := []) (na := 3) (kc := 44) X Y (Lx_deliver_x_ix hlt hr hb1 (lb_no Y)) wr_blindX (fun _ _ q => q) gL_deliver ⟨by decide, by decide, by decide⟩ ⟨Nat.le_of_ble_eq_true rfl, Nat.le_of_ble_eq_true rfl⟩ rfl hl.1 (Nat.le_of_ble_eq_true rfl) dL_law_200 ⟨rm_c (show cells + (τ.1 - τ.1 + 1) ≤ 590000 by omega), rm_s (show slots + (τ.2.1 - τ.2.1 + 6) ≤ 7150000 by omega)⟩ (fun H1 locs1 Z1 hK hz => ?_)
    exact lbr_deliver X hi hL ⟨(H1.size, 0, τ.2.2), A, cs, W1, U1, s0, W2, lb_Yn Y Z1 mj_le.rf hz hK, I_at I (by rw [Y.2.1.1]; exact hz), ⟨rfl, hn⟩, I', hfl, by omega, by omega⟩ hl kk
theorem lkr_lose : Cond.methodLink RL 80 (tb_Y 116) ∈ tb_W := by decide +kernel
theorem gL_lose : GoodIn lw_tbl (va_wsS RL 78 yL_lose (wr_ws yL_lose cL_lose 4 [(0, 9, 12, 13)])) := wr_G (by decide +kernel) (by decide +kernel) (by decide +kernel) (by decide +kernel)
theorem lbr_lose {k : Int32} (X : lb_X p l s m meth c b L xs ar D cL) (hi : i + 4 ≤ L) (hL : L ≤ 2049) (hK : lp_K s ar D cL B o a n (i + 4) H locs cells slots) (hl : lv_has ls 7 [(0, .ref b), (1, .ref a), (2, .ref B), (3, .ref o), (4, .int (nI i))]) (kk : ∀ (H1 : Heap) (locs1 : List Loc) (c1 s1 : Nat) (ls1 : Array Slot), lp_K s ar D cL B o a n (i + 4) H1 locs1 c1 s1 → lv_has ls1 7 [(0, .ref b), (1, .ref a), (2, .ref B), (3, .ref o), (4, .int (nI i))] → W p l e room_1 s m #[Value.ref b] below meth c H1 locs1 c1 s1 Q (F0 m 637 ls1 [])) : W p l e room_1 s m #[Value.ref b] below meth c H locs cells slots Q (F0 m 231 ls [.int k]) := by
  have X0 := X
  obtain ⟨⟨hx, hb, -⟩, -, -, hX, hbl, -⟩ := X0
  obtain ⟨σ, A, cs, W1, U1, s0, W2, Y, I, ⟨ha, hn⟩, I', hfl, hc, hs⟩ := hK
  have hn4 := cs_n4 I hn
  obtain ⟨rm1, rm2⟩ := ct_rm I
  refine lv_istore (lv' := (5, .int k) :: [(0, .ref b), (1, .ref a), (2, .ref B), (3, .ref o), (4, .int (nI i))]) hx hb dL_law_231 hl (by decide) rfl (fun ls hl => ?_)
  refine lv_aload_n hx hb dL_law_233 rfl (lv_at hl 3 rfl) ?_
  refine lv_aload_n hx hb dL_law_234 rfl (lv_at hl 1 rfl) ?_
  refine lv_iload hx hb dL_law_235 (lv_at hl 5 rfl) ?_
  refine lv_iconst (v := 1) hx hb dL_law_237 (by decide) ?_
  refine lv_iadd hx hb dL_law_238 ?_
  refine va_sld hx hb hX hbl (lb_nA hbl) Y.1.1 (lb_in (j := 1) (by omega) (by omega)) dL_law_239 ?_
  have hwp : mj_wp (tb ar) 116 (mj_en (tb ar) 116 (.ref B :: [.int (lb_p xs i 1)]) (rs_st ar B H.size 0 s0)) (fun r τ => ∃ (v : Int32) (s' : rs_S), r = .inl (some (.int v)) ∧ τ = rs_st ar B H.size 0 s' ∧ rs_Zc s0 n s') := by
    have hZ : ∀ (r : Int32) (s' : rs_S), rs_Zc s0 n s' → ∃ (v : Int32) (s'' : rs_S), (Sum.inl (some (Value.int r)) : Option Value ⊕ String) = .inl (some (.int v)) ∧ rs_st ar B H.size 0 s' = rs_st ar B H.size 0 s'' ∧ rs_Zc s0 n s'' := fun r s' h => ⟨r, s', rfl, rfl, h⟩
    exact R_lose I' (fun s' r h => hZ r s' h)
  obtain ⟨⟨r9, τ9⟩, hR, v, s', e1, e2, ⟨W3, I3⟩, e3⟩ := hwp
  dsimp only at e1 e2
  subst e1
  subst e2
  refine lb_VY (kr := 116) (As := [.int (lb_p xs i 1)]) (rest := []) X Y hR (by decide) rfl rfl rfl (Nat.le_of_ble_eq_true rfl) (fun w hw => by simp only [List.mem_cons, List.not_mem_nil, or_false] at hw; subst hw; rfl) lkr_lose ⟨Nat.le_of_ble_eq_true rfl, Nat.le_of_ble_eq_true rfl⟩ hl.1 (Nat.le_of_ble_eq_true rfl) dL_law_240 ⟨rm_c (show cells ≤ 590000 by omega), rm_s (show slots ≤ 7150000 by omega)⟩ (fun H1 locs1 Y1 ho => ?_)
  refine lv_istore (lv' := (6, .int v) :: (5, .int k) :: [(0, .ref b), (1, .ref a), (2, .ref B), (3, .ref o), (4, .int (nI i))]) hx hb dL_law_243 hl (by decide) rfl (fun ls hl => ?_)
  refine lv_goto (tgt := 637) hx hb dL_law_245 (by decide) ?_
  exact kk H1 locs1 cells slots ls ⟨σ, A, cs, W1, U1, s', W3, Y1, I, ⟨ha, hn⟩, I3, fun j hj => by rw [e3]; exact hfl j hj, hc, hs⟩ (lv_sub hl [2, 3, 4, 5, 6] rfl)
theorem lbc_lose (X : lb_X p l s m meth c b L xs ar D cL) (hi : i + 4 ≤ L) (hL : L ≤ 2049) (hK : lp_K s ar D cL B o a n i H locs cells slots) (hl : lv_has ls 7 [(0, .ref b), (1, .ref a), (2, .ref B), (3, .ref o), (4, .int (nI i))]) (kk : ∀ (H1 : Heap) (locs1 : List Loc) (c1 s1 : Nat) (ls1 : Array Slot), lp_K s ar D cL B o a n (i + 4) H1 locs1 c1 s1 → lv_has ls1 7 [(0, .ref b), (1, .ref a), (2, .ref B), (3, .ref o), (4, .int (nI i))] → W p l e room_1 s m #[Value.ref b] below meth c H1 locs1 c1 s1 Q (F0 m 637 ls1 [])) : W p l e room_1 s m #[Value.ref b] below meth c H locs cells slots Q (F0 m 220 ls []) := by
  have X0 := X
  obtain ⟨⟨hx, hb, -⟩, -, -, hX, hbl, -, -, -, -, hlt⟩ := X0
  obtain ⟨σ, A, cs, W1, U1, s0, W2, Y, I, ⟨ha, hn⟩, I', hfl, hc, hs⟩ := hK
  subst ha
  obtain ⟨rm1, rm2⟩ := ct_rm I
  obtain ⟨fs, hb1⟩ := cI_0 I
  refine lv_aload_n hx hb dL_law_220 rfl (lv_at hl 1 rfl) ?_
  refine lv_aload_n hx hb dL_law_221 rfl (lv_at hl 0 rfl) ?_
  refine lv_iload hx hb dL_law_222 (lv_at hl 4 rfl) ?_
  refine lv_iconst (v := 1) hx hb dL_law_224 (by decide) ?_
  refine lv_iadd hx hb dL_law_225 ?_
  refine va_sld hx hb hX hbl (lb_nA hbl) Y.1.1 (lb_in (j := 1) (by omega) (by omega)) dL_law_226 ?_
  refine lv_aload_n hx hb dL_law_227 rfl (lv_at hl 3 rfl) ?_
  have hwp : mj_wp (tb ar) 45 (mj_en (tb ar) 45 (.ref (A (0, 0)) :: [.int (lb_p xs i 1)]) σ) (cl_Q [x_ix] ar A cs σ) := C_lose I (fun _ => (Or.inr ⟨x_ix, List.mem_cons_self, rfl, rfl⟩)) (fun τ r h => Or.inl ⟨r, rfl, h⟩)
  obtain ⟨⟨r9, τ⟩, hr, hcl⟩ := hwp
  dsimp only at hcl
  rcases hcl with ⟨v, e1, A1, cs1, W3, U3, I1, D1⟩ | ⟨x9, hx9, e1, e2⟩
  · subst e1
    have hle : mj_le σ τ := R_le hr
    obtain ⟨rm3, rm4⟩ := ct_rm I1
    have ac := D1.1.2.2.2.2
    have h1 := hle.1
    have h2 := hle.2.1
    refine lw_S (as := [.ref (A (0, 0)), .int (lb_p xs i 1), .ref o]) (rest := []) (na := 3) (kc := 45) X Y (Lr_lose hr hb1 (lb_no Y) (lb_no2 Y hle)) wr_blind (fun _ _ q => q.1) gL_lose ⟨by decide, by decide, by decide⟩ ⟨Nat.le_of_ble_eq_true rfl, Nat.le_of_ble_eq_true rfl⟩ rfl hl.1 (Nat.le_of_ble_eq_true rfl) dL_law_228 ⟨rm_c (show cells + (τ.1 - σ.1) ≤ 590000 by omega), rm_s (show slots + (τ.2.1 - σ.2.1) ≤ 7150000 by omega)⟩ (fun H1 locs1 Z1 hK hz => ?_)
    exact lbr_lose X hi hL ⟨(H1.size, 0, τ.2.2), A1, cs1, W3, U3, s0, W2, lb_Yn Y Z1 hle hz hK.2.1, I_at I1 hK.2.2, ⟨D1.1.1 0 0 (by decide), D1.1.2.2.1.trans hn⟩, I', fun j hj => by rw [D1.2.1 j]; exact hfl j hj, by omega, by omega⟩ hl kk
  · subst e2
    simp only [List.mem_cons, List.not_mem_nil, or_false] at hx9
    subst hx9
    subst e1
    refine lw_S (as := [.ref (A (0, 0)), .int (lb_p xs i 1), .ref o]) (rest := []) (na := 3) (kc := 45) X Y (Lx_lose_x_ix hlt hr hb1 (lb_no Y)) wr_blindX (fun _ _ q => q) gL_lose ⟨by decide, by decide, by decide⟩ ⟨Nat.le_of_ble_eq_true rfl, Nat.le_of_ble_eq_true rfl⟩ rfl hl.1 (Nat.le_of_ble_eq_true rfl) dL_law_228 ⟨rm_c (show cells + (τ.1 - τ.1 + 1) ≤ 590000 by omega), rm_s (show slots + (τ.2.1 - τ.2.1 + 6) ≤ 7150000 by omega)⟩ (fun H1 locs1 Z1 hK hz => ?_)
    exact lbr_lose X hi hL ⟨(H1.size, 0, τ.2.2), A, cs, W1, U1, s0, W2, lb_Yn Y Z1 mj_le.rf hz hK, I_at I (by rw [Y.2.1.1]; exact hz), ⟨rfl, hn⟩, I', hfl, by omega, by omega⟩ hl kk
theorem lkr_repeat : Cond.methodLink RL 83 (tb_Y 117) ∈ tb_W := by decide +kernel
theorem gL_repeat : GoodIn lw_tbl (va_wsS RL 81 yL_repeat (wr_ws yL_repeat cL_repeat 4 [(0, 9, 12, 13), (0, 9, 15, 17)])) := wr_G (by decide +kernel) (by decide +kernel) (by decide +kernel) (by decide +kernel)
theorem lbr_repeat {k : Int32} (X : lb_X p l s m meth c b L xs ar D cL) (hi : i + 4 ≤ L) (hL : L ≤ 2049) (hK : lp_K s ar D cL B o a n (i + 4) H locs cells slots) (hl : lv_has ls 7 [(0, .ref b), (1, .ref a), (2, .ref B), (3, .ref o), (4, .int (nI i))]) (kk : ∀ (H1 : Heap) (locs1 : List Loc) (c1 s1 : Nat) (ls1 : Array Slot), lp_K s ar D cL B o a n (i + 4) H1 locs1 c1 s1 → lv_has ls1 7 [(0, .ref b), (1, .ref a), (2, .ref B), (3, .ref o), (4, .int (nI i))] → W p l e room_1 s m #[Value.ref b] below meth c H1 locs1 c1 s1 Q (F0 m 637 ls1 [])) : W p l e room_1 s m #[Value.ref b] below meth c H locs cells slots Q (F0 m 259 ls [.int k]) := by
  have X0 := X
  obtain ⟨⟨hx, hb, -⟩, -, -, hX, hbl, -⟩ := X0
  obtain ⟨σ, A, cs, W1, U1, s0, W2, Y, I, ⟨ha, hn⟩, I', hfl, hc, hs⟩ := hK
  have hn4 := cs_n4 I hn
  obtain ⟨rm1, rm2⟩ := ct_rm I
  refine lv_istore (lv' := (5, .int k) :: [(0, .ref b), (1, .ref a), (2, .ref B), (3, .ref o), (4, .int (nI i))]) hx hb dL_law_259 hl (by decide) rfl (fun ls hl => ?_)
  refine lv_aload_n hx hb dL_law_261 rfl (lv_at hl 3 rfl) ?_
  refine lv_aload_n hx hb dL_law_262 rfl (lv_at hl 1 rfl) ?_
  refine lv_iload hx hb dL_law_263 (lv_at hl 5 rfl) ?_
  refine lv_iconst (v := 1) hx hb dL_law_265 (by decide) ?_
  refine lv_iadd hx hb dL_law_266 ?_
  refine va_sld hx hb hX hbl (lb_nA hbl) Y.1.1 (lb_in (j := 1) (by omega) (by omega)) dL_law_267 ?_
  have hwp : mj_wp (tb ar) 117 (mj_en (tb ar) 117 (.ref B :: [.int (lb_p xs i 1)]) (rs_st ar B H.size 0 s0)) (fun r τ => ∃ (v : Int32) (s' : rs_S), r = .inl (some (.int v)) ∧ τ = rs_st ar B H.size 0 s' ∧ rs_Zc s0 n s') := by
    have hZ : ∀ (r : Int32) (s' : rs_S), rs_Zc s0 n s' → ∃ (v : Int32) (s'' : rs_S), (Sum.inl (some (Value.int r)) : Option Value ⊕ String) = .inl (some (.int v)) ∧ rs_st ar B H.size 0 s' = rs_st ar B H.size 0 s'' ∧ rs_Zc s0 n s'' := fun r s' h => ⟨r, s', rfl, rfl, h⟩
    exact R_repeat hn4 I' (fun s' r h => hZ r s' h)
  obtain ⟨⟨r9, τ9⟩, hR, v, s', e1, e2, ⟨W3, I3⟩, e3⟩ := hwp
  dsimp only at e1 e2
  subst e1
  subst e2
  refine lb_VY (kr := 117) (As := [.int (lb_p xs i 1)]) (rest := []) X Y hR (by decide) rfl rfl rfl (Nat.le_of_ble_eq_true rfl) (fun w hw => by simp only [List.mem_cons, List.not_mem_nil, or_false] at hw; subst hw; rfl) lkr_repeat ⟨Nat.le_of_ble_eq_true rfl, Nat.le_of_ble_eq_true rfl⟩ hl.1 (Nat.le_of_ble_eq_true rfl) dL_law_268 ⟨rm_c (show cells ≤ 590000 by omega), rm_s (show slots ≤ 7150000 by omega)⟩ (fun H1 locs1 Y1 ho => ?_)
  refine lv_istore (lv' := (6, .int v) :: (5, .int k) :: [(0, .ref b), (1, .ref a), (2, .ref B), (3, .ref o), (4, .int (nI i))]) hx hb dL_law_271 hl (by decide) rfl (fun ls hl => ?_)
  refine lv_goto (tgt := 637) hx hb dL_law_273 (by decide) ?_
  exact kk H1 locs1 cells slots ls ⟨σ, A, cs, W1, U1, s', W3, Y1, I, ⟨ha, hn⟩, I3, fun j hj => by rw [e3]; exact hfl j hj, hc, hs⟩ (lv_sub hl [2, 3, 4, 5, 6] rfl)
theorem lbc_repeat (X : lb_X p l s m meth c b L xs ar D cL) (hi : i + 4 ≤ L) (hL : L ≤ 2049) (hK : lp_K s ar D cL B o a n i H locs cells slots) (hl : lv_has ls 7 [(0, .ref b), (1, .ref a), (2, .ref B), (3, .ref o), (4, .int (nI i))]) (kk : ∀ (H1 : Heap) (locs1 : List Loc) (c1 s1 : Nat) (ls1 : Array Slot), lp_K s ar D cL B o a n (i + 4) H1 locs1 c1 s1 → lv_has ls1 7 [(0, .ref b), (1, .ref a), (2, .ref B), (3, .ref o), (4, .int (nI i))] → W p l e room_1 s m #[Value.ref b] below meth c H1 locs1 c1 s1 Q (F0 m 637 ls1 [])) : W p l e room_1 s m #[Value.ref b] below meth c H locs cells slots Q (F0 m 248 ls []) := by
  have X0 := X
  obtain ⟨⟨hx, hb, -⟩, -, -, hX, hbl, -, -, -, -, hlt⟩ := X0
  obtain ⟨σ, A, cs, W1, U1, s0, W2, Y, I, ⟨ha, hn⟩, I', hfl, hc, hs⟩ := hK
  subst ha
  obtain ⟨rm1, rm2⟩ := ct_rm I
  obtain ⟨fs, hb1⟩ := cI_0 I
  refine lv_aload_n hx hb dL_law_248 rfl (lv_at hl 1 rfl) ?_
  refine lv_aload_n hx hb dL_law_249 rfl (lv_at hl 0 rfl) ?_
  refine lv_iload hx hb dL_law_250 (lv_at hl 4 rfl) ?_
  refine lv_iconst (v := 1) hx hb dL_law_252 (by decide) ?_
  refine lv_iadd hx hb dL_law_253 ?_
  refine va_sld hx hb hX hbl (lb_nA hbl) Y.1.1 (lb_in (j := 1) (by omega) (by omega)) dL_law_254 ?_
  refine lv_aload_n hx hb dL_law_255 rfl (lv_at hl 3 rfl) ?_
  have hwp : mj_wp (tb ar) 46 (mj_en (tb ar) 46 (.ref (A (0, 0)) :: [.int (lb_p xs i 1)]) σ) (cl_Q [x_ix, x_st] ar A cs σ) := C_repeat I (fun _ => (Or.inr ⟨x_ix, List.mem_cons_self, rfl, rfl⟩)) (fun _ => (Or.inr ⟨x_st, List.mem_cons_of_mem _ List.mem_cons_self, rfl, rfl⟩)) (fun τ r h => Or.inl ⟨r, rfl, h⟩)
  obtain ⟨⟨r9, τ⟩, hr, hcl⟩ := hwp
  dsimp only at hcl
  rcases hcl with ⟨v, e1, A1, cs1, W3, U3, I1, D1⟩ | ⟨x9, hx9, e1, e2⟩
  · subst e1
    have hle : mj_le σ τ := R_le hr
    obtain ⟨rm3, rm4⟩ := ct_rm I1
    have ac := D1.1.2.2.2.2
    have h1 := hle.1
    have h2 := hle.2.1
    refine lw_S (as := [.ref (A (0, 0)), .int (lb_p xs i 1), .ref o]) (rest := []) (na := 3) (kc := 46) X Y (Lr_repeat hr hb1 (lb_no Y) (lb_no2 Y hle)) wr_blind (fun _ _ q => q.1) gL_repeat ⟨by decide, by decide, by decide⟩ ⟨Nat.le_of_ble_eq_true rfl, Nat.le_of_ble_eq_true rfl⟩ rfl hl.1 (Nat.le_of_ble_eq_true rfl) dL_law_256 ⟨rm_c (show cells + (τ.1 - σ.1) ≤ 590000 by omega), rm_s (show slots + (τ.2.1 - σ.2.1) ≤ 7150000 by omega)⟩ (fun H1 locs1 Z1 hK hz => ?_)
    exact lbr_repeat X hi hL ⟨(H1.size, 0, τ.2.2), A1, cs1, W3, U3, s0, W2, lb_Yn Y Z1 hle hz hK.2.1, I_at I1 hK.2.2, ⟨D1.1.1 0 0 (by decide), D1.1.2.2.1.trans hn⟩, I', fun j hj => by rw [D1.2.1 j]; exact hfl j hj, by omega, by omega⟩ hl kk
  · subst e2
    simp only [List.mem_cons, List.not_mem_nil, or_false] at hx9
    rcases hx9 with rfl | rfl
    · subst e1
      refine lw_S (as := [.ref (A (0, 0)), .int (lb_p xs i 1), .ref o]) (rest := []) (na := 3) (kc := 46) X Y (Lx_repeat_x_ix hlt hr hb1 (lb_no Y)) wr_blindX (fun _ _ q => q) gL_repeat ⟨by decide, by decide, by decide⟩ ⟨Nat.le_of_ble_eq_true rfl, Nat.le_of_ble_eq_true rfl⟩ rfl hl.1 (Nat.le_of_ble_eq_true rfl) dL_law_256 ⟨rm_c (show cells + (τ.1 - τ.1 + 1) ≤ 590000 by omega), rm_s (show slots + (τ.2.1 - τ.2.1 + 6) ≤ 7150000 by omega)⟩ (fun H1 locs1 Z1 hK hz => ?_)
      exact lbr_repeat X hi hL ⟨(H1.size, 0, τ.2.2), A, cs, W1, U1, s0, W2, lb_Yn Y Z1 mj_le.rf hz hK, I_at I (by rw [Y.2.1.1]; exact hz), ⟨rfl, hn⟩, I', hfl, by omega, by omega⟩ hl kk
    · subst e1
      refine lw_S (as := [.ref (A (0, 0)), .int (lb_p xs i 1), .ref o]) (rest := []) (na := 3) (kc := 46) X Y (Lx_repeat_x_st hlt hr hb1 (lb_no Y)) wr_blindX (fun _ _ q => q) gL_repeat ⟨by decide, by decide, by decide⟩ ⟨Nat.le_of_ble_eq_true rfl, Nat.le_of_ble_eq_true rfl⟩ rfl hl.1 (Nat.le_of_ble_eq_true rfl) dL_law_256 ⟨rm_c (show cells + (τ.1 - τ.1 + 1) ≤ 590000 by omega), rm_s (show slots + (τ.2.1 - τ.2.1 + 6) ≤ 7150000 by omega)⟩ (fun H1 locs1 Z1 hK hz => ?_)
      exact lbr_repeat X hi hL ⟨(H1.size, 0, τ.2.2), A, cs, W1, U1, s0, W2, lb_Yn Y Z1 mj_le.rf hz hK, I_at I (by rw [Y.2.1.1]; exact hz), ⟨rfl, hn⟩, I', hfl, by omega, by omega⟩ hl kk
theorem lkr_run : Cond.methodLink RL 90 (tb_Y 127) ∈ tb_W := by decide +kernel
theorem gL_run : GoodIn lw_tbl (va_wsS RL 88 yL_run (wr_ws yL_run cL_run 4 [(0, 9, 12, 15)])) := wr_G (by decide +kernel) (by decide +kernel) (by decide +kernel) (by decide +kernel)
theorem lbr_run {k : Int32} (X : lb_X p l s m meth c b L xs ar D cL) (hi : i + 4 ≤ L) (hL : L ≤ 2049) (hK : lp_K s ar D cL B o a n (i + 4) H locs cells slots) (hl : lv_has ls 7 [(0, .ref b), (1, .ref a), (2, .ref B), (3, .ref o), (4, .int (nI i))]) (kk : ∀ (H1 : Heap) (locs1 : List Loc) (c1 s1 : Nat) (ls1 : Array Slot), lp_K s ar D cL B o a n (i + 4) H1 locs1 c1 s1 → lv_has ls1 7 [(0, .ref b), (1, .ref a), (2, .ref B), (3, .ref o), (4, .int (nI i))] → W p l e room_1 s m #[Value.ref b] below meth c H1 locs1 c1 s1 Q (F0 m 637 ls1 [])) : W p l e room_1 s m #[Value.ref b] below meth c H locs cells slots Q (F0 m 298 ls [.int k]) := by
  have X0 := X
  obtain ⟨⟨hx, hb, -⟩, -, -, hX, hbl, -⟩ := X0
  obtain ⟨σ, A, cs, W1, U1, s0, W2, Y, I, ⟨ha, hn⟩, I', hfl, hc, hs⟩ := hK
  have hn4 := cs_n4 I hn
  obtain ⟨rm1, rm2⟩ := ct_rm I
  refine lv_istore (lv' := (5, .int k) :: [(0, .ref b), (1, .ref a), (2, .ref B), (3, .ref o), (4, .int (nI i))]) hx hb dL_law_298 hl (by decide) rfl (fun ls hl => ?_)
  refine lv_aload_n hx hb dL_law_300 rfl (lv_at hl 3 rfl) ?_
  refine lv_aload_n hx hb dL_law_301 rfl (lv_at hl 1 rfl) ?_
  refine lv_iload hx hb dL_law_302 (lv_at hl 5 rfl) ?_
  refine lv_iconst (v := 1) hx hb dL_law_304 (by decide) ?_
  refine lv_iadd hx hb dL_law_305 ?_
  refine va_sld hx hb hX hbl (lb_nA hbl) Y.1.1 (lb_in (j := 1) (by omega) (by omega)) dL_law_306 ?_
  have hwp : mj_wp (tb ar) 127 (mj_en (tb ar) 127 (.ref B :: [.int (lb_p xs i 1)]) (rs_st ar B H.size 0 s0)) (fun r τ => ∃ (v : Int32) (s' : rs_S), r = .inl (some (.int v)) ∧ τ = rs_st ar B H.size 0 s' ∧ rs_Zc s0 n s') := by
    have hZ : ∀ (r : Int32) (s' : rs_S), rs_Zc s0 n s' → ∃ (v : Int32) (s'' : rs_S), (Sum.inl (some (Value.int r)) : Option Value ⊕ String) = .inl (some (.int v)) ∧ rs_st ar B H.size 0 s' = rs_st ar B H.size 0 s'' ∧ rs_Zc s0 n s'' := fun r s' h => ⟨r, s', rfl, rfl, h⟩
    exact R_run hn4 I' (fun s' r h => hZ r s' h)
  obtain ⟨⟨r9, τ9⟩, hR, v, s', e1, e2, ⟨W3, I3⟩, e3⟩ := hwp
  dsimp only at e1 e2
  subst e1
  subst e2
  refine lb_VY (kr := 127) (As := [.int (lb_p xs i 1)]) (rest := []) X Y hR (by decide) rfl rfl rfl (Nat.le_of_ble_eq_true rfl) (fun w hw => by simp only [List.mem_cons, List.not_mem_nil, or_false] at hw; subst hw; rfl) lkr_run ⟨Nat.le_of_ble_eq_true rfl, Nat.le_of_ble_eq_true rfl⟩ hl.1 (Nat.le_of_ble_eq_true rfl) dL_law_307 ⟨rm_c (show cells ≤ 590000 by omega), rm_s (show slots ≤ 7150000 by omega)⟩ (fun H1 locs1 Y1 ho => ?_)
  refine lv_istore (lv' := (6, .int v) :: (5, .int k) :: [(0, .ref b), (1, .ref a), (2, .ref B), (3, .ref o), (4, .int (nI i))]) hx hb dL_law_310 hl (by decide) rfl (fun ls hl => ?_)
  refine lv_goto (tgt := 637) hx hb dL_law_312 (by decide) ?_
  exact kk H1 locs1 cells slots ls ⟨σ, A, cs, W1, U1, s', W3, Y1, I, ⟨ha, hn⟩, I3, fun j hj => by rw [e3]; exact hfl j hj, hc, hs⟩ (lv_sub hl [2, 3, 4, 5, 6] rfl)
theorem lbc_run (X : lb_X p l s m meth c b L xs ar D cL) (hi : i + 4 ≤ L) (hL : L ≤ 2049) (hK : lp_K s ar D cL B o a n i H locs cells slots) (hl : lv_has ls 7 [(0, .ref b), (1, .ref a), (2, .ref B), (3, .ref o), (4, .int (nI i))]) (kk : ∀ (H1 : Heap) (locs1 : List Loc) (c1 s1 : Nat) (ls1 : Array Slot), lp_K s ar D cL B o a n (i + 4) H1 locs1 c1 s1 → lv_has ls1 7 [(0, .ref b), (1, .ref a), (2, .ref B), (3, .ref o), (4, .int (nI i))] → W p l e room_1 s m #[Value.ref b] below meth c H1 locs1 c1 s1 Q (F0 m 637 ls1 [])) : W p l e room_1 s m #[Value.ref b] below meth c H locs cells slots Q (F0 m 287 ls []) := by
  have X0 := X
  obtain ⟨⟨hx, hb, -⟩, -, -, hX, hbl, -, -, -, -, hlt⟩ := X0
  obtain ⟨σ, A, cs, W1, U1, s0, W2, Y, I, ⟨ha, hn⟩, I', hfl, hc, hs⟩ := hK
  subst ha
  obtain ⟨rm1, rm2⟩ := ct_rm I
  obtain ⟨fs, hb1⟩ := cI_0 I
  refine lv_aload_n hx hb dL_law_287 rfl (lv_at hl 1 rfl) ?_
  refine lv_aload_n hx hb dL_law_288 rfl (lv_at hl 0 rfl) ?_
  refine lv_iload hx hb dL_law_289 (lv_at hl 4 rfl) ?_
  refine lv_iconst (v := 1) hx hb dL_law_291 (by decide) ?_
  refine lv_iadd hx hb dL_law_292 ?_
  refine va_sld hx hb hX hbl (lb_nA hbl) Y.1.1 (lb_in (j := 1) (by omega) (by omega)) dL_law_293 ?_
  refine lv_aload_n hx hb dL_law_294 rfl (lv_at hl 3 rfl) ?_
  have hwp : mj_wp (tb ar) 48 (mj_en (tb ar) 48 (.ref (A (0, 0)) :: [.int (lb_p xs i 1)]) σ) (cl_Q [x_ar] ar A cs σ) := C_run I (fun _ => (Or.inr ⟨x_ar, List.mem_cons_self, rfl, rfl⟩)) (fun τ r h => Or.inl ⟨r, rfl, h⟩)
  obtain ⟨⟨r9, τ⟩, hr, hcl⟩ := hwp
  dsimp only at hcl
  rcases hcl with ⟨v, e1, A1, cs1, W3, U3, I1, D1⟩ | ⟨x9, hx9, e1, e2⟩
  · subst e1
    have hle : mj_le σ τ := R_le hr
    obtain ⟨rm3, rm4⟩ := ct_rm I1
    have ac := D1.1.2.2.2.2
    have h1 := hle.1
    have h2 := hle.2.1
    refine lw_S (as := [.ref (A (0, 0)), .int (lb_p xs i 1), .ref o]) (rest := []) (na := 3) (kc := 48) X Y (Lr_run hr hb1 (lb_no Y) (lb_no2 Y hle)) wr_blind (fun _ _ q => q.1) gL_run ⟨by decide, by decide, by decide⟩ ⟨Nat.le_of_ble_eq_true rfl, Nat.le_of_ble_eq_true rfl⟩ rfl hl.1 (Nat.le_of_ble_eq_true rfl) dL_law_295 ⟨rm_c (show cells + (τ.1 - σ.1) ≤ 590000 by omega), rm_s (show slots + (τ.2.1 - σ.2.1) ≤ 7150000 by omega)⟩ (fun H1 locs1 Z1 hK hz => ?_)
    exact lbr_run X hi hL ⟨(H1.size, 0, τ.2.2), A1, cs1, W3, U3, s0, W2, lb_Yn Y Z1 hle hz hK.2.1, I_at I1 hK.2.2, ⟨D1.1.1 0 0 (by decide), D1.1.2.2.1.trans hn⟩, I', fun j hj => by rw [D1.2.1 j]; exact hfl j hj, by omega, by omega⟩ hl kk
  · subst e2
    simp only [List.mem_cons, List.not_mem_nil, or_false] at hx9
    subst hx9
    subst e1
    refine lw_S (as := [.ref (A (0, 0)), .int (lb_p xs i 1), .ref o]) (rest := []) (na := 3) (kc := 48) X Y (Lx_run_x_ar hlt hr hb1 (lb_no Y)) wr_blindX (fun _ _ q => q) gL_run ⟨by decide, by decide, by decide⟩ ⟨Nat.le_of_ble_eq_true rfl, Nat.le_of_ble_eq_true rfl⟩ rfl hl.1 (Nat.le_of_ble_eq_true rfl) dL_law_295 ⟨rm_c (show cells + (τ.1 - τ.1 + 1) ≤ 590000 by omega), rm_s (show slots + (τ.2.1 - τ.2.1 + 6) ≤ 7150000 by omega)⟩ (fun H1 locs1 Z1 hK hz => ?_)
    exact lbr_run X hi hL ⟨(H1.size, 0, τ.2.2), A, cs, W1, U1, s0, W2, lb_Yn Y Z1 mj_le.rf hz hK, I_at I (by rw [Y.2.1.1]; exact hz), ⟨rfl, hn⟩, I', hfl, by omega, by omega⟩ hl kk
theorem lkr_crash : Cond.methodLink RL 94 (tb_Y 128) ∈ tb_W := by decide +kernel
theorem gL_crash : GoodIn lw_tbl (va_wsS RL 91 yL_crash (wr_ws yL_crash cL_crash 5 [(0, 10, 13, 13)])) := wr_G (by decide +kernel) (by decide +kernel) (by decide +kernel) (by decide +kernel)
theorem lkr_message : Cond.methodLink RL 105 (tb_Y 130) ∈ tb_W := by decide +kernel
theorem gL_message : GoodIn lw_tbl (va_wsS RL 103 yL_message (wr_ws yL_message cL_message 5 [(0, 10, 13, 13)])) := wr_G (by decide +kernel) (by decide +kernel) (by decide +kernel) (by decide +kernel)
theorem lbr_message {k : Int32} (X : lb_X p l s m meth c b L xs ar D cL) (hi : i + 4 ≤ L) (hL : L ≤ 2049) (hK : lp_K s ar D cL B o a n (i + 4) H locs cells slots) (hl : lv_has ls 7 [(0, .ref b), (1, .ref a), (2, .ref B), (3, .ref o), (4, .int (nI i))]) (kk : ∀ (H1 : Heap) (locs1 : List Loc) (c1 s1 : Nat) (ls1 : Array Slot), lp_K s ar D cL B o a n (i + 4) H1 locs1 c1 s1 → lv_has ls1 7 [(0, .ref b), (1, .ref a), (2, .ref B), (3, .ref o), (4, .int (nI i))] → W p l e room_1 s m #[Value.ref b] below meth c H1 locs1 c1 s1 Q (F0 m 637 ls1 [])) : W p l e room_1 s m #[Value.ref b] below meth c H locs cells slots Q (F0 m 429 ls [.int k]) := by
  have X0 := X
  obtain ⟨⟨hx, hb, -⟩, -, -, hX, hbl, -⟩ := X0
  obtain ⟨σ, A, cs, W1, U1, s0, W2, Y, I, ⟨ha, hn⟩, I', hfl, hc, hs⟩ := hK
  have hn4 := cs_n4 I hn
  obtain ⟨rm1, rm2⟩ := ct_rm I
  refine lv_istore (lv' := (5, .int k) :: [(0, .ref b), (1, .ref a), (2, .ref B), (3, .ref o), (4, .int (nI i))]) hx hb dL_law_429 hl (by decide) rfl (fun ls hl => ?_)
  refine lv_aload_n hx hb dL_law_431 rfl (lv_at hl 3 rfl) ?_
  refine lv_aload_n hx hb dL_law_432 rfl (lv_at hl 1 rfl) ?_
  refine lv_iload hx hb dL_law_433 (lv_at hl 5 rfl) ?_
  refine lv_iconst (v := 1) hx hb dL_law_435 (by decide) ?_
  refine lv_iadd hx hb dL_law_436 ?_
  refine va_sld hx hb hX hbl (lb_nA hbl) Y.1.1 (lb_in (j := 1) (by omega) (by omega)) dL_law_437 ?_
  refine lv_aload_n hx hb dL_law_438 rfl (lv_at hl 1 rfl) ?_
  refine lv_iload hx hb dL_law_439 (lv_at hl 5 rfl) ?_
  refine lv_iconst (v := 2) hx hb dL_law_441 (by decide) ?_
  refine lv_iadd hx hb dL_law_442 ?_
  refine va_sld hx hb hX hbl (lb_nA hbl) Y.1.1 (lb_in (j := 2) (by omega) (by omega)) dL_law_443 ?_
  have hwp : mj_wp (tb ar) 130 (mj_en (tb ar) 130 (.ref B :: [.int (lb_p xs i 1), .int (lb_p xs i 2)]) (rs_st ar B H.size 0 s0)) (fun r τ => ∃ (v : Int32) (s' : rs_S), r = .inl (some (.int v)) ∧ τ = rs_st ar B H.size 0 s' ∧ rs_Zc s0 n s') := by
    have hZ : ∀ (r : Int32) (s' : rs_S), rs_Zc s0 n s' → ∃ (v : Int32) (s'' : rs_S), (Sum.inl (some (Value.int r)) : Option Value ⊕ String) = .inl (some (.int v)) ∧ rs_st ar B H.size 0 s' = rs_st ar B H.size 0 s'' ∧ rs_Zc s0 n s'' := fun r s' h => ⟨r, s', rfl, rfl, h⟩
    exact R_message I' (fun r t => hZ r _ (Z_w I'))
  obtain ⟨⟨r9, τ9⟩, hR, v, s', e1, e2, ⟨W3, I3⟩, e3⟩ := hwp
  dsimp only at e1 e2
  subst e1
  subst e2
  refine lb_VY (kr := 130) (As := [.int (lb_p xs i 1), .int (lb_p xs i 2)]) (rest := []) X Y hR (by decide) rfl rfl rfl (Nat.le_of_ble_eq_true rfl) (fun w hw => by simp only [List.mem_cons, List.not_mem_nil, or_false] at hw; rcases hw with rfl | rfl <;> rfl) lkr_message ⟨Nat.le_of_ble_eq_true rfl, Nat.le_of_ble_eq_true rfl⟩ hl.1 (Nat.le_of_ble_eq_true rfl) dL_law_444 ⟨rm_c (show cells ≤ 590000 by omega), rm_s (show slots ≤ 7150000 by omega)⟩ (fun H1 locs1 Y1 ho => ?_)
  refine lv_istore (lv' := (6, .int v) :: (5, .int k) :: [(0, .ref b), (1, .ref a), (2, .ref B), (3, .ref o), (4, .int (nI i))]) hx hb dL_law_447 hl (by decide) rfl (fun ls hl => ?_)
  refine lv_goto (tgt := 637) hx hb dL_law_449 (by decide) ?_
  exact kk H1 locs1 cells slots ls ⟨σ, A, cs, W1, U1, s', W3, Y1, I, ⟨ha, hn⟩, I3, fun j hj => by rw [e3]; exact hfl j hj, hc, hs⟩ (lv_sub hl [2, 3, 4, 5, 6] rfl)
theorem lbc_message (X : lb_X p l s m meth c b L xs ar D cL) (hi : i + 4 ≤ L) (hL : L ≤ 2049) (hK : lp_K s ar D cL B o a n i H locs cells slots) (hl : lv_has ls 7 [(0, .ref b), (1, .ref a), (2, .ref B), (3, .ref o), (4, .int (nI i))]) (kk : ∀ (H1 : Heap) (locs1 : List Loc) (c1 s1 : Nat) (ls1 : Array Slot), lp_K s ar D cL B o a n (i + 4) H1 locs1 c1 s1 → lv_has ls1 7 [(0, .ref b), (1, .ref a), (2, .ref B), (3, .ref o), (4, .int (nI i))] → W p l e room_1 s m #[Value.ref b] below meth c H1 locs1 c1 s1 Q (F0 m 637 ls1 [])) : W p l e room_1 s m #[Value.ref b] below meth c H locs cells slots Q (F0 m 412 ls []) := by
  have X0 := X
  obtain ⟨⟨hx, hb, -⟩, -, -, hX, hbl, -, -, -, -, hlt⟩ := X0
  obtain ⟨σ, A, cs, W1, U1, s0, W2, Y, I, ⟨ha, hn⟩, I', hfl, hc, hs⟩ := hK
  subst ha
  obtain ⟨rm1, rm2⟩ := ct_rm I
  obtain ⟨fs, hb1⟩ := cI_0 I
  refine lv_aload_n hx hb dL_law_412 rfl (lv_at hl 1 rfl) ?_
  refine lv_aload_n hx hb dL_law_413 rfl (lv_at hl 0 rfl) ?_
  refine lv_iload hx hb dL_law_414 (lv_at hl 4 rfl) ?_
  refine lv_iconst (v := 1) hx hb dL_law_416 (by decide) ?_
  refine lv_iadd hx hb dL_law_417 ?_
  refine va_sld hx hb hX hbl (lb_nA hbl) Y.1.1 (lb_in (j := 1) (by omega) (by omega)) dL_law_418 ?_
  refine lv_aload_n hx hb dL_law_419 rfl (lv_at hl 0 rfl) ?_
  refine lv_iload hx hb dL_law_420 (lv_at hl 4 rfl) ?_
  refine lv_iconst (v := 2) hx hb dL_law_422 (by decide) ?_
  refine lv_iadd hx hb dL_law_423 ?_
  refine va_sld hx hb hX hbl (lb_nA hbl) Y.1.1 (lb_in (j := 2) (by omega) (by omega)) dL_law_424 ?_
  refine lv_aload_n hx hb dL_law_425 rfl (lv_at hl 3 rfl) ?_
  have hwp : mj_wp (tb ar) 51 (mj_en (tb ar) 51 (.ref (A (0, 0)) :: [.int (lb_p xs i 1), .int (lb_p xs i 2)]) σ) (cl_Q [x_ix] ar A cs σ) := C_message I (Or.inr ⟨x_ix, List.mem_cons_self, rfl, rfl⟩) (fun r => Or.inl ⟨r, rfl, A, cs, W1, U1, I, D_rf⟩)
  obtain ⟨⟨r9, τ⟩, hr, hcl⟩ := hwp
  dsimp only at hcl
  rcases hcl with ⟨v, e1, A1, cs1, W3, U3, I1, D1⟩ | ⟨x9, hx9, e1, e2⟩
  · subst e1
    have hle : mj_le σ τ := R_le hr
    obtain ⟨rm3, rm4⟩ := ct_rm I1
    have ac := D1.1.2.2.2.2
    have h1 := hle.1
    have h2 := hle.2.1
    refine lw_S (as := [.ref (A (0, 0)), .int (lb_p xs i 1), .int (lb_p xs i 2), .ref o]) (rest := []) (na := 4) (kc := 51) X Y (Lr_message hr hb1 (lb_no Y) (lb_no2 Y hle)) wr_blind (fun _ _ q => q.1) gL_message ⟨by decide, by decide, by decide⟩ ⟨Nat.le_of_ble_eq_true rfl, Nat.le_of_ble_eq_true rfl⟩ rfl hl.1 (Nat.le_of_ble_eq_true rfl) dL_law_426 ⟨rm_c (show cells + (τ.1 - σ.1) ≤ 590000 by omega), rm_s (show slots + (τ.2.1 - σ.2.1) ≤ 7150000 by omega)⟩ (fun H1 locs1 Z1 hK hz => ?_)
    exact lbr_message X hi hL ⟨(H1.size, 0, τ.2.2), A1, cs1, W3, U3, s0, W2, lb_Yn Y Z1 hle hz hK.2.1, I_at I1 hK.2.2, ⟨D1.1.1 0 0 (by decide), D1.1.2.2.1.trans hn⟩, I', fun j hj => by rw [D1.2.1 j]; exact hfl j hj, by omega, by omega⟩ hl kk
  · subst e2
    simp only [List.mem_cons, List.not_mem_nil, or_false] at hx9
    subst hx9
    subst e1
    refine lw_S (as := [.ref (A (0, 0)), .int (lb_p xs i 1), .int (lb_p xs i 2), .ref o]) (rest := []) (na := 4) (kc := 51) X Y (Lx_message_x_ix hlt hr hb1 (lb_no Y)) wr_blindX (fun _ _ q => q) gL_message ⟨by decide, by decide, by decide⟩ ⟨Nat.le_of_ble_eq_true rfl, Nat.le_of_ble_eq_true rfl⟩ rfl hl.1 (Nat.le_of_ble_eq_true rfl) dL_law_426 ⟨rm_c (show cells + (τ.1 - τ.1 + 1) ≤ 590000 by omega), rm_s (show slots + (τ.2.1 - τ.2.1 + 6) ≤ 7150000 by omega)⟩ (fun H1 locs1 Z1 hK hz => ?_)
    exact lbr_message X hi hL ⟨(H1.size, 0, τ.2.2), A, cs, W1, U1, s0, W2, lb_Yn Y Z1 mj_le.rf hz hK, I_at I (by rw [Y.2.1.1]; exact hz), ⟨rfl, hn⟩, I', hfl, by omega, by omega⟩ hl kk
theorem lkr_decided : Cond.methodLink RL 108 (tb_Y 131) ∈ tb_W := by decide +kernel
theorem gL_decided : GoodIn lw_tbl (va_wsS RL 106 yL_decided (wr_ws yL_decided cL_decided 5 [(0, 10, 13, 13)])) := wr_G (by decide +kernel) (by decide +kernel) (by decide +kernel) (by decide +kernel)
theorem lbr_decided {k : Int32} (X : lb_X p l s m meth c b L xs ar D cL) (hi : i + 4 ≤ L) (hL : L ≤ 2049) (hK : lp_K s ar D cL B o a n (i + 4) H locs cells slots) (hl : lv_has ls 7 [(0, .ref b), (1, .ref a), (2, .ref B), (3, .ref o), (4, .int (nI i))]) (kk : ∀ (H1 : Heap) (locs1 : List Loc) (c1 s1 : Nat) (ls1 : Array Slot), lp_K s ar D cL B o a n (i + 4) H1 locs1 c1 s1 → lv_has ls1 7 [(0, .ref b), (1, .ref a), (2, .ref B), (3, .ref o), (4, .int (nI i))] → W p l e room_1 s m #[Value.ref b] below meth c H1 locs1 c1 s1 Q (F0 m 637 ls1 [])) : W p l e room_1 s m #[Value.ref b] below meth c H locs cells slots Q (F0 m 469 ls [.int k]) := by
  have X0 := X
  obtain ⟨⟨hx, hb, -⟩, -, -, hX, hbl, -⟩ := X0
  obtain ⟨σ, A, cs, W1, U1, s0, W2, Y, I, ⟨ha, hn⟩, I', hfl, hc, hs⟩ := hK
  have hn4 := cs_n4 I hn
  obtain ⟨rm1, rm2⟩ := ct_rm I
  refine lv_istore (lv' := (5, .int k) :: [(0, .ref b), (1, .ref a), (2, .ref B), (3, .ref o), (4, .int (nI i))]) hx hb dL_law_469 hl (by decide) rfl (fun ls hl => ?_)
  refine lv_aload_n hx hb dL_law_471 rfl (lv_at hl 3 rfl) ?_
  refine lv_aload_n hx hb dL_law_472 rfl (lv_at hl 1 rfl) ?_
  refine lv_iload hx hb dL_law_473 (lv_at hl 5 rfl) ?_
  refine lv_iconst (v := 1) hx hb dL_law_475 (by decide) ?_
  refine lv_iadd hx hb dL_law_476 ?_
  refine va_sld hx hb hX hbl (lb_nA hbl) Y.1.1 (lb_in (j := 1) (by omega) (by omega)) dL_law_477 ?_
  refine lv_aload_n hx hb dL_law_478 rfl (lv_at hl 1 rfl) ?_
  refine lv_iload hx hb dL_law_479 (lv_at hl 5 rfl) ?_
  refine lv_iconst (v := 2) hx hb dL_law_481 (by decide) ?_
  refine lv_iadd hx hb dL_law_482 ?_
  refine va_sld hx hb hX hbl (lb_nA hbl) Y.1.1 (lb_in (j := 2) (by omega) (by omega)) dL_law_483 ?_
  have hwp : mj_wp (tb ar) 131 (mj_en (tb ar) 131 (.ref B :: [.int (lb_p xs i 1), .int (lb_p xs i 2)]) (rs_st ar B H.size 0 s0)) (fun r τ => ∃ (v : Int32) (s' : rs_S), r = .inl (some (.int v)) ∧ τ = rs_st ar B H.size 0 s' ∧ rs_Zc s0 n s') := by
    have hZ : ∀ (r : Int32) (s' : rs_S), rs_Zc s0 n s' → ∃ (v : Int32) (s'' : rs_S), (Sum.inl (some (Value.int r)) : Option Value ⊕ String) = .inl (some (.int v)) ∧ rs_st ar B H.size 0 s' = rs_st ar B H.size 0 s'' ∧ rs_Zc s0 n s'' := fun r s' h => ⟨r, s', rfl, rfl, h⟩
    exact R_decided hn4 I'.2.1 (fun r t => hZ r _ (Z_w I'))
  obtain ⟨⟨r9, τ9⟩, hR, v, s', e1, e2, ⟨W3, I3⟩, e3⟩ := hwp
  dsimp only at e1 e2
  subst e1
  subst e2
  refine lb_VY (kr := 131) (As := [.int (lb_p xs i 1), .int (lb_p xs i 2)]) (rest := []) X Y hR (by decide) rfl rfl rfl (Nat.le_of_ble_eq_true rfl) (fun w hw => by simp only [List.mem_cons, List.not_mem_nil, or_false] at hw; rcases hw with rfl | rfl <;> rfl) lkr_decided ⟨Nat.le_of_ble_eq_true rfl, Nat.le_of_ble_eq_true rfl⟩ hl.1 (Nat.le_of_ble_eq_true rfl) dL_law_484 ⟨rm_c (show cells ≤ 590000 by omega), rm_s (show slots ≤ 7150000 by omega)⟩ (fun H1 locs1 Y1 ho => ?_)
  refine lv_istore (lv' := (6, .int v) :: (5, .int k) :: [(0, .ref b), (1, .ref a), (2, .ref B), (3, .ref o), (4, .int (nI i))]) hx hb dL_law_487 hl (by decide) rfl (fun ls hl => ?_)
  refine lv_goto (tgt := 637) hx hb dL_law_489 (by decide) ?_
  exact kk H1 locs1 cells slots ls ⟨σ, A, cs, W1, U1, s', W3, Y1, I, ⟨ha, hn⟩, I3, fun j hj => by rw [e3]; exact hfl j hj, hc, hs⟩ (lv_sub hl [2, 3, 4, 5, 6] rfl)
theorem lbc_decided (X : lb_X p l s m meth c b L xs ar D cL) (hi : i + 4 ≤ L) (hL : L ≤ 2049) (hK : lp_K s ar D cL B o a n i H locs cells slots) (hl : lv_has ls 7 [(0, .ref b), (1, .ref a), (2, .ref B), (3, .ref o), (4, .int (nI i))]) (kk : ∀ (H1 : Heap) (locs1 : List Loc) (c1 s1 : Nat) (ls1 : Array Slot), lp_K s ar D cL B o a n (i + 4) H1 locs1 c1 s1 → lv_has ls1 7 [(0, .ref b), (1, .ref a), (2, .ref B), (3, .ref o), (4, .int (nI i))] → W p l e room_1 s m #[Value.ref b] below meth c H1 locs1 c1 s1 Q (F0 m 637 ls1 [])) : W p l e room_1 s m #[Value.ref b] below meth c H locs cells slots Q (F0 m 452 ls []) := by
  have X0 := X
  obtain ⟨⟨hx, hb, -⟩, -, -, hX, hbl, -, -, -, -, hlt⟩ := X0
  obtain ⟨σ, A, cs, W1, U1, s0, W2, Y, I, ⟨ha, hn⟩, I', hfl, hc, hs⟩ := hK
  subst ha
  obtain ⟨rm1, rm2⟩ := ct_rm I
  obtain ⟨fs, hb1⟩ := cI_0 I
  refine lv_aload_n hx hb dL_law_452 rfl (lv_at hl 1 rfl) ?_
  refine lv_aload_n hx hb dL_law_453 rfl (lv_at hl 0 rfl) ?_
  refine lv_iload hx hb dL_law_454 (lv_at hl 4 rfl) ?_
  refine lv_iconst (v := 1) hx hb dL_law_456 (by decide) ?_
  refine lv_iadd hx hb dL_law_457 ?_
  refine va_sld hx hb hX hbl (lb_nA hbl) Y.1.1 (lb_in (j := 1) (by omega) (by omega)) dL_law_458 ?_
  refine lv_aload_n hx hb dL_law_459 rfl (lv_at hl 0 rfl) ?_
  refine lv_iload hx hb dL_law_460 (lv_at hl 4 rfl) ?_
  refine lv_iconst (v := 2) hx hb dL_law_462 (by decide) ?_
  refine lv_iadd hx hb dL_law_463 ?_
  refine va_sld hx hb hX hbl (lb_nA hbl) Y.1.1 (lb_in (j := 2) (by omega) (by omega)) dL_law_464 ?_
  refine lv_aload_n hx hb dL_law_465 rfl (lv_at hl 3 rfl) ?_
  have hwp : mj_wp (tb ar) 52 (mj_en (tb ar) 52 (.ref (A (0, 0)) :: [.int (lb_p xs i 1), .int (lb_p xs i 2)]) σ) (cl_Q [x_ix] ar A cs σ) := C_decided I (Or.inr ⟨x_ix, List.mem_cons_self, rfl, rfl⟩) (fun r => Or.inl ⟨r, rfl, A, cs, W1, U1, I, D_rf⟩)
  obtain ⟨⟨r9, τ⟩, hr, hcl⟩ := hwp
  dsimp only at hcl
  rcases hcl with ⟨v, e1, A1, cs1, W3, U3, I1, D1⟩ | ⟨x9, hx9, e1, e2⟩
  · subst e1
    have hle : mj_le σ τ := R_le hr
    obtain ⟨rm3, rm4⟩ := ct_rm I1
    have ac := D1.1.2.2.2.2
    have h1 := hle.1
    have h2 := hle.2.1
    refine lw_S (as := [.ref (A (0, 0)), .int (lb_p xs i 1), .int (lb_p xs i 2), .ref o]) (rest := []) (na := 4) (kc := 52) X Y (Lr_decided hr hb1 (lb_no Y) (lb_no2 Y hle)) wr_blind (fun _ _ q => q.1) gL_decided ⟨by decide, by decide, by decide⟩ ⟨Nat.le_of_ble_eq_true rfl, Nat.le_of_ble_eq_true rfl⟩ rfl hl.1 (Nat.le_of_ble_eq_true rfl) dL_law_466 ⟨rm_c (show cells + (τ.1 - σ.1) ≤ 590000 by omega), rm_s (show slots + (τ.2.1 - σ.2.1) ≤ 7150000 by omega)⟩ (fun H1 locs1 Z1 hK hz => ?_)
    exact lbr_decided X hi hL ⟨(H1.size, 0, τ.2.2), A1, cs1, W3, U3, s0, W2, lb_Yn Y Z1 hle hz hK.2.1, I_at I1 hK.2.2, ⟨D1.1.1 0 0 (by decide), D1.1.2.2.1.trans hn⟩, I', fun j hj => by rw [D1.2.1 j]; exact hfl j hj, by omega, by omega⟩ hl kk
  · subst e2
    simp only [List.mem_cons, List.not_mem_nil, or_false] at hx9
    subst hx9
    subst e1
    refine lw_S (as := [.ref (A (0, 0)), .int (lb_p xs i 1), .int (lb_p xs i 2), .ref o]) (rest := []) (na := 4) (kc := 52) X Y (Lx_decided_x_ix hlt hr hb1 (lb_no Y)) wr_blindX (fun _ _ q => q) gL_decided ⟨by decide, by decide, by decide⟩ ⟨Nat.le_of_ble_eq_true rfl, Nat.le_of_ble_eq_true rfl⟩ rfl hl.1 (Nat.le_of_ble_eq_true rfl) dL_law_466 ⟨rm_c (show cells + (τ.1 - τ.1 + 1) ≤ 590000 by omega), rm_s (show slots + (τ.2.1 - τ.2.1 + 6) ≤ 7150000 by omega)⟩ (fun H1 locs1 Z1 hK hz => ?_)
    exact lbr_decided X hi hL ⟨(H1.size, 0, τ.2.2), A, cs, W1, U1, s0, W2, lb_Yn Y Z1 mj_le.rf hz hK, I_at I (by rw [Y.2.1.1]; exact hz), ⟨rfl, hn⟩, I', hfl, by omega, by omega⟩ hl kk
theorem lkr_about : Cond.methodLink RL 111 (tb_Y 132) ∈ tb_W := by decide +kernel
theorem gL_about : GoodIn lw_tbl (va_wsS RL 109 yL_about (wr_ws yL_about cL_about 5 [(0, 10, 13, 13)])) := wr_G (by decide +kernel) (by decide +kernel) (by decide +kernel) (by decide +kernel)
theorem lbr_about {k : Int32} (X : lb_X p l s m meth c b L xs ar D cL) (hi : i + 4 ≤ L) (hL : L ≤ 2049) (hK : lp_K s ar D cL B o a n (i + 4) H locs cells slots) (hl : lv_has ls 7 [(0, .ref b), (1, .ref a), (2, .ref B), (3, .ref o), (4, .int (nI i))]) (kk : ∀ (H1 : Heap) (locs1 : List Loc) (c1 s1 : Nat) (ls1 : Array Slot), lp_K s ar D cL B o a n (i + 4) H1 locs1 c1 s1 → lv_has ls1 7 [(0, .ref b), (1, .ref a), (2, .ref B), (3, .ref o), (4, .int (nI i))] → W p l e room_1 s m #[Value.ref b] below meth c H1 locs1 c1 s1 Q (F0 m 637 ls1 [])) : W p l e room_1 s m #[Value.ref b] below meth c H locs cells slots Q (F0 m 509 ls [.int k]) := by
  have X0 := X
  obtain ⟨⟨hx, hb, -⟩, -, -, hX, hbl, -⟩ := X0
  obtain ⟨σ, A, cs, W1, U1, s0, W2, Y, I, ⟨ha, hn⟩, I', hfl, hc, hs⟩ := hK
  have hn4 := cs_n4 I hn
  obtain ⟨rm1, rm2⟩ := ct_rm I
  refine lv_istore (lv' := (5, .int k) :: [(0, .ref b), (1, .ref a), (2, .ref B), (3, .ref o), (4, .int (nI i))]) hx hb dL_law_509 hl (by decide) rfl (fun ls hl => ?_)
  refine lv_aload_n hx hb dL_law_511 rfl (lv_at hl 3 rfl) ?_
  refine lv_aload_n hx hb dL_law_512 rfl (lv_at hl 1 rfl) ?_
  refine lv_iload hx hb dL_law_513 (lv_at hl 5 rfl) ?_
  refine lv_iconst (v := 1) hx hb dL_law_515 (by decide) ?_
  refine lv_iadd hx hb dL_law_516 ?_
  refine va_sld hx hb hX hbl (lb_nA hbl) Y.1.1 (lb_in (j := 1) (by omega) (by omega)) dL_law_517 ?_
  refine lv_aload_n hx hb dL_law_518 rfl (lv_at hl 1 rfl) ?_
  refine lv_iload hx hb dL_law_519 (lv_at hl 5 rfl) ?_
  refine lv_iconst (v := 2) hx hb dL_law_521 (by decide) ?_
  refine lv_iadd hx hb dL_law_522 ?_
  refine va_sld hx hb hX hbl (lb_nA hbl) Y.1.1 (lb_in (j := 2) (by omega) (by omega)) dL_law_523 ?_
  have hwp : mj_wp (tb ar) 132 (mj_en (tb ar) 132 (.ref B :: [.int (lb_p xs i 1), .int (lb_p xs i 2)]) (rs_st ar B H.size 0 s0)) (fun r τ => ∃ (v : Int32) (s' : rs_S), r = .inl (some (.int v)) ∧ τ = rs_st ar B H.size 0 s' ∧ rs_Zc s0 n s') := by
    have hZ : ∀ (r : Int32) (s' : rs_S), rs_Zc s0 n s' → ∃ (v : Int32) (s'' : rs_S), (Sum.inl (some (Value.int r)) : Option Value ⊕ String) = .inl (some (.int v)) ∧ rs_st ar B H.size 0 s' = rs_st ar B H.size 0 s'' ∧ rs_Zc s0 n s'' := fun r s' h => ⟨r, s', rfl, rfl, h⟩
    exact R_about hn4 I'.2.1 (fun r t => hZ r _ (Z_w I'))
  obtain ⟨⟨r9, τ9⟩, hR, v, s', e1, e2, ⟨W3, I3⟩, e3⟩ := hwp
  dsimp only at e1 e2
  subst e1
  subst e2
  refine lb_VY (kr := 132) (As := [.int (lb_p xs i 1), .int (lb_p xs i 2)]) (rest := []) X Y hR (by decide) rfl rfl rfl (Nat.le_of_ble_eq_true rfl) (fun w hw => by simp only [List.mem_cons, List.not_mem_nil, or_false] at hw; rcases hw with rfl | rfl <;> rfl) lkr_about ⟨Nat.le_of_ble_eq_true rfl, Nat.le_of_ble_eq_true rfl⟩ hl.1 (Nat.le_of_ble_eq_true rfl) dL_law_524 ⟨rm_c (show cells ≤ 590000 by omega), rm_s (show slots ≤ 7150000 by omega)⟩ (fun H1 locs1 Y1 ho => ?_)
  refine lv_istore (lv' := (6, .int v) :: (5, .int k) :: [(0, .ref b), (1, .ref a), (2, .ref B), (3, .ref o), (4, .int (nI i))]) hx hb dL_law_527 hl (by decide) rfl (fun ls hl => ?_)
  refine lv_goto (tgt := 637) hx hb dL_law_529 (by decide) ?_
  exact kk H1 locs1 cells slots ls ⟨σ, A, cs, W1, U1, s', W3, Y1, I, ⟨ha, hn⟩, I3, fun j hj => by rw [e3]; exact hfl j hj, hc, hs⟩ (lv_sub hl [2, 3, 4, 5, 6] rfl)
theorem lbc_about (X : lb_X p l s m meth c b L xs ar D cL) (hi : i + 4 ≤ L) (hL : L ≤ 2049) (hK : lp_K s ar D cL B o a n i H locs cells slots) (hl : lv_has ls 7 [(0, .ref b), (1, .ref a), (2, .ref B), (3, .ref o), (4, .int (nI i))]) (kk : ∀ (H1 : Heap) (locs1 : List Loc) (c1 s1 : Nat) (ls1 : Array Slot), lp_K s ar D cL B o a n (i + 4) H1 locs1 c1 s1 → lv_has ls1 7 [(0, .ref b), (1, .ref a), (2, .ref B), (3, .ref o), (4, .int (nI i))] → W p l e room_1 s m #[Value.ref b] below meth c H1 locs1 c1 s1 Q (F0 m 637 ls1 [])) : W p l e room_1 s m #[Value.ref b] below meth c H locs cells slots Q (F0 m 492 ls []) := by
  have X0 := X
  obtain ⟨⟨hx, hb, -⟩, -, -, hX, hbl, -, -, -, -, hlt⟩ := X0
  obtain ⟨σ, A, cs, W1, U1, s0, W2, Y, I, ⟨ha, hn⟩, I', hfl, hc, hs⟩ := hK
  subst ha
  obtain ⟨rm1, rm2⟩ := ct_rm I
  obtain ⟨fs, hb1⟩ := cI_0 I
  refine lv_aload_n hx hb dL_law_492 rfl (lv_at hl 1 rfl) ?_
  refine lv_aload_n hx hb dL_law_493 rfl (lv_at hl 0 rfl) ?_
  refine lv_iload hx hb dL_law_494 (lv_at hl 4 rfl) ?_
  refine lv_iconst (v := 1) hx hb dL_law_496 (by decide) ?_
  refine lv_iadd hx hb dL_law_497 ?_
  refine va_sld hx hb hX hbl (lb_nA hbl) Y.1.1 (lb_in (j := 1) (by omega) (by omega)) dL_law_498 ?_
  refine lv_aload_n hx hb dL_law_499 rfl (lv_at hl 0 rfl) ?_
  refine lv_iload hx hb dL_law_500 (lv_at hl 4 rfl) ?_
  refine lv_iconst (v := 2) hx hb dL_law_502 (by decide) ?_
  refine lv_iadd hx hb dL_law_503 ?_
  refine va_sld hx hb hX hbl (lb_nA hbl) Y.1.1 (lb_in (j := 2) (by omega) (by omega)) dL_law_504 ?_
  refine lv_aload_n hx hb dL_law_505 rfl (lv_at hl 3 rfl) ?_
  have hwp : mj_wp (tb ar) 53 (mj_en (tb ar) 53 (.ref (A (0, 0)) :: [.int (lb_p xs i 1), .int (lb_p xs i 2)]) σ) (cl_Q [x_ix] ar A cs σ) := C_about I (Or.inr ⟨x_ix, List.mem_cons_self, rfl, rfl⟩) (fun r => Or.inl ⟨r, rfl, A, cs, W1, U1, I, D_rf⟩)
  obtain ⟨⟨r9, τ⟩, hr, hcl⟩ := hwp
  dsimp only at hcl
  rcases hcl with ⟨v, e1, A1, cs1, W3, U3, I1, D1⟩ | ⟨x9, hx9, e1, e2⟩
  · subst e1
    have hle : mj_le σ τ := R_le hr
    obtain ⟨rm3, rm4⟩ := ct_rm I1
    have ac := D1.1.2.2.2.2
    have h1 := hle.1
    have h2 := hle.2.1
    refine lw_S (as := [.ref (A (0, 0)), .int (lb_p xs i 1), .int (lb_p xs i 2), .ref o]) (rest := []) (na := 4) (kc := 53) X Y (Lr_about hr hb1 (lb_no Y) (lb_no2 Y hle)) wr_blind (fun _ _ q => q.1) gL_about ⟨by decide, by decide, by decide⟩ ⟨Nat.le_of_ble_eq_true rfl, Nat.le_of_ble_eq_true rfl⟩ rfl hl.1 (Nat.le_of_ble_eq_true rfl) dL_law_506 ⟨rm_c (show cells + (τ.1 - σ.1) ≤ 590000 by omega), rm_s (show slots + (τ.2.1 - σ.2.1) ≤ 7150000 by omega)⟩ (fun H1 locs1 Z1 hK hz => ?_)
    exact lbr_about X hi hL ⟨(H1.size, 0, τ.2.2), A1, cs1, W3, U3, s0, W2, lb_Yn Y Z1 hle hz hK.2.1, I_at I1 hK.2.2, ⟨D1.1.1 0 0 (by decide), D1.1.2.2.1.trans hn⟩, I', fun j hj => by rw [D1.2.1 j]; exact hfl j hj, by omega, by omega⟩ hl kk
  · subst e2
    simp only [List.mem_cons, List.not_mem_nil, or_false] at hx9
    subst hx9
    subst e1
    refine lw_S (as := [.ref (A (0, 0)), .int (lb_p xs i 1), .int (lb_p xs i 2), .ref o]) (rest := []) (na := 4) (kc := 53) X Y (Lx_about_x_ix hlt hr hb1 (lb_no Y)) wr_blindX (fun _ _ q => q) gL_about ⟨by decide, by decide, by decide⟩ ⟨Nat.le_of_ble_eq_true rfl, Nat.le_of_ble_eq_true rfl⟩ rfl hl.1 (Nat.le_of_ble_eq_true rfl) dL_law_506 ⟨rm_c (show cells + (τ.1 - τ.1 + 1) ≤ 590000 by omega), rm_s (show slots + (τ.2.1 - τ.2.1 + 6) ≤ 7150000 by omega)⟩ (fun H1 locs1 Z1 hK hz => ?_)
    exact lbr_about X hi hL ⟨(H1.size, 0, τ.2.2), A, cs, W1, U1, s0, W2, lb_Yn Y Z1 mj_le.rf hz hK, I_at I (by rw [Y.2.1.1]; exact hz), ⟨rfl, hn⟩, I', hfl, by omega, by omega⟩ hl kk
theorem lkr_accepted : Cond.methodLink RL 115 (tb_Y 133) ∈ tb_W := by decide +kernel
theorem gL_accepted : GoodIn lw_tbl (va_wsS RL 112 yL_accepted (wr_ws yL_accepted cL_accepted 6 [(0, 12, 15, 13)])) := wr_G (by decide +kernel) (by decide +kernel) (by decide +kernel) (by decide +kernel)
theorem lbr_accepted {k : Int32} (X : lb_X p l s m meth c b L xs ar D cL) (hi : i + 4 ≤ L) (hL : L ≤ 2049) (hK : lp_K s ar D cL B o a n (i + 4) H locs cells slots) (hl : lv_has ls 7 [(0, .ref b), (1, .ref a), (2, .ref B), (3, .ref o), (4, .int (nI i))]) (kk : ∀ (H1 : Heap) (locs1 : List Loc) (c1 s1 : Nat) (ls1 : Array Slot), lp_K s ar D cL B o a n (i + 4) H1 locs1 c1 s1 → lv_has ls1 7 [(0, .ref b), (1, .ref a), (2, .ref B), (3, .ref o), (4, .int (nI i))] → W p l e room_1 s m #[Value.ref b] below meth c H1 locs1 c1 s1 Q (F0 m 637 ls1 [])) : W p l e room_1 s m #[Value.ref b] below meth c H locs cells slots Q (F0 m 555 ls [.int k]) := by
  have X0 := X
  obtain ⟨⟨hx, hb, -⟩, -, -, hX, hbl, -⟩ := X0
  obtain ⟨σ, A, cs, W1, U1, s0, W2, Y, I, ⟨ha, hn⟩, I', hfl, hc, hs⟩ := hK
  have hn4 := cs_n4 I hn
  obtain ⟨rm1, rm2⟩ := ct_rm I
  refine lv_istore (lv' := (5, .int k) :: [(0, .ref b), (1, .ref a), (2, .ref B), (3, .ref o), (4, .int (nI i))]) hx hb dL_law_555 hl (by decide) rfl (fun ls hl => ?_)
  refine lv_aload_n hx hb dL_law_557 rfl (lv_at hl 3 rfl) ?_
  refine lv_aload_n hx hb dL_law_558 rfl (lv_at hl 1 rfl) ?_
  refine lv_iload hx hb dL_law_559 (lv_at hl 5 rfl) ?_
  refine lv_iconst (v := 1) hx hb dL_law_561 (by decide) ?_
  refine lv_iadd hx hb dL_law_562 ?_
  refine va_sld hx hb hX hbl (lb_nA hbl) Y.1.1 (lb_in (j := 1) (by omega) (by omega)) dL_law_563 ?_
  refine lv_aload_n hx hb dL_law_564 rfl (lv_at hl 1 rfl) ?_
  refine lv_iload hx hb dL_law_565 (lv_at hl 5 rfl) ?_
  refine lv_iconst (v := 2) hx hb dL_law_567 (by decide) ?_
  refine lv_iadd hx hb dL_law_568 ?_
  refine va_sld hx hb hX hbl (lb_nA hbl) Y.1.1 (lb_in (j := 2) (by omega) (by omega)) dL_law_569 ?_
  refine lv_aload_n hx hb dL_law_570 rfl (lv_at hl 1 rfl) ?_
  refine lv_iload hx hb dL_law_571 (lv_at hl 5 rfl) ?_
  refine lv_iconst (v := 3) hx hb dL_law_573 (by decide) ?_
  refine lv_iadd hx hb dL_law_574 ?_
  refine va_sld hx hb hX hbl (lb_nA hbl) Y.1.1 (lb_in (j := 3) (by omega) (by omega)) dL_law_575 ?_
  have hwp : mj_wp (tb ar) 133 (mj_en (tb ar) 133 (.ref B :: [.int (lb_p xs i 1), .int (lb_p xs i 2), .int (lb_p xs i 3)]) (rs_st ar B H.size 0 s0)) (fun r τ => ∃ (v : Int32) (s' : rs_S), r = .inl (some (.int v)) ∧ τ = rs_st ar B H.size 0 s' ∧ rs_Zc s0 n s') := by
    have hZ : ∀ (r : Int32) (s' : rs_S), rs_Zc s0 n s' → ∃ (v : Int32) (s'' : rs_S), (Sum.inl (some (Value.int r)) : Option Value ⊕ String) = .inl (some (.int v)) ∧ rs_st ar B H.size 0 s' = rs_st ar B H.size 0 s'' ∧ rs_Zc s0 n s'' := fun r s' h => ⟨r, s', rfl, rfl, h⟩
    exact R_accepted hn4 I'.2.1 (fun r t => hZ r _ (Z_w I'))
  obtain ⟨⟨r9, τ9⟩, hR, v, s', e1, e2, ⟨W3, I3⟩, e3⟩ := hwp
  dsimp only at e1 e2
  subst e1
  subst e2
  refine lb_VY (kr := 133) (As := [.int (lb_p xs i 1), .int (lb_p xs i 2), .int (lb_p xs i 3)]) (rest := []) X Y hR (by decide) rfl rfl rfl (Nat.le_of_ble_eq_true rfl) (fun w hw => by simp only [List.mem_cons, List.not_mem_nil, or_false] at hw; rcases hw with rfl | rfl | rfl <;> rfl) lkr_accepted ⟨Nat.le_of_ble_eq_true rfl, Nat.le_of_ble_eq_true rfl⟩ hl.1 (Nat.le_of_ble_eq_true rfl) dL_law_576 ⟨rm_c (show cells ≤ 590000 by omega), rm_s (show slots ≤ 7150000 by omega)⟩ (fun H1 locs1 Y1 ho => ?_)
  refine lv_istore (lv' := (6, .int v) :: (5, .int k) :: [(0, .ref b), (1, .ref a), (2, .ref B), (3, .ref o), (4, .int (nI i))]) hx hb dL_law_579 hl (by decide) rfl (fun ls hl => ?_)
  refine lv_goto (tgt := 637) hx hb dL_law_581 (by decide) ?_
  exact kk H1 locs1 cells slots ls ⟨σ, A, cs, W1, U1, s', W3, Y1, I, ⟨ha, hn⟩, I3, fun j hj => by rw [e3]; exact hfl j hj, hc, hs⟩ (lv_sub hl [2, 3, 4, 5, 6] rfl)
theorem lbc_accepted (X : lb_X p l s m meth c b L xs ar D cL) (hi : i + 4 ≤ L) (hL : L ≤ 2049) (hK : lp_K s ar D cL B o a n i H locs cells slots) (hl : lv_has ls 7 [(0, .ref b), (1, .ref a), (2, .ref B), (3, .ref o), (4, .int (nI i))]) (kk : ∀ (H1 : Heap) (locs1 : List Loc) (c1 s1 : Nat) (ls1 : Array Slot), lp_K s ar D cL B o a n (i + 4) H1 locs1 c1 s1 → lv_has ls1 7 [(0, .ref b), (1, .ref a), (2, .ref B), (3, .ref o), (4, .int (nI i))] → W p l e room_1 s m #[Value.ref b] below meth c H1 locs1 c1 s1 Q (F0 m 637 ls1 [])) : W p l e room_1 s m #[Value.ref b] below meth c H locs cells slots Q (F0 m 532 ls []) := by
  have X0 := X
  obtain ⟨⟨hx, hb, -⟩, -, -, hX, hbl, -, -, -, -, hlt⟩ := X0
  obtain ⟨σ, A, cs, W1, U1, s0, W2, Y, I, ⟨ha, hn⟩, I', hfl, hc, hs⟩ := hK
  subst ha
  obtain ⟨rm1, rm2⟩ := ct_rm I
  obtain ⟨fs, hb1⟩ := cI_0 I
  refine lv_aload_n hx hb dL_law_532 rfl (lv_at hl 1 rfl) ?_
  refine lv_aload_n hx hb dL_law_533 rfl (lv_at hl 0 rfl) ?_
  refine lv_iload hx hb dL_law_534 (lv_at hl 4 rfl) ?_
  refine lv_iconst (v := 1) hx hb dL_law_536 (by decide) ?_
  refine lv_iadd hx hb dL_law_537 ?_
  refine va_sld hx hb hX hbl (lb_nA hbl) Y.1.1 (lb_in (j := 1) (by omega) (by omega)) dL_law_538 ?_
  refine lv_aload_n hx hb dL_law_539 rfl (lv_at hl 0 rfl) ?_
  refine lv_iload hx hb dL_law_540 (lv_at hl 4 rfl) ?_
  refine lv_iconst (v := 2) hx hb dL_law_542 (by decide) ?_
  refine lv_iadd hx hb dL_law_543 ?_
  refine va_sld hx hb hX hbl (lb_nA hbl) Y.1.1 (lb_in (j := 2) (by omega) (by omega)) dL_law_544 ?_
  refine lv_aload_n hx hb dL_law_545 rfl (lv_at hl 0 rfl) ?_
  refine lv_iload hx hb dL_law_546 (lv_at hl 4 rfl) ?_
  refine lv_iconst (v := 3) hx hb dL_law_548 (by decide) ?_
  refine lv_iadd hx hb dL_law_549 ?_
  refine va_sld hx hb hX hbl (lb_nA hbl) Y.1.1 (lb_in (j := 3) (by omega) (by omega)) dL_law_550 ?_
  refine lv_aload_n hx hb dL_law_551 rfl (lv_at hl 3 rfl) ?_
  have hwp : mj_wp (tb ar) 54 (mj_en (tb ar) 54 (.ref (A (0, 0)) :: [.int (lb_p xs i 1), .int (lb_p xs i 2), .int (lb_p xs i 3)]) σ) (cl_Q [x_ix] ar A cs σ) := C_accepted I (Or.inr ⟨x_ix, List.mem_cons_self, rfl, rfl⟩) (fun r => Or.inl ⟨r, rfl, A, cs, W1, U1, I, D_rf⟩)
  obtain ⟨⟨r9, τ⟩, hr, hcl⟩ := hwp
  dsimp only at hcl
  rcases hcl with ⟨v, e1, A1, cs1, W3, U3, I1, D1⟩ | ⟨x9, hx9, e1, e2⟩
  · subst e1
    have hle : mj_le σ τ := R_le hr
    obtain ⟨rm3, rm4⟩ := ct_rm I1
    have ac := D1.1.2.2.2.2
    have h1 := hle.1
    have h2 := hle.2.1
    refine lw_S (as := [.ref (A (0, 0)), .int (lb_p xs i 1), .int (lb_p xs i 2), .int (lb_p xs i 3), .ref o]) (rest := []) (na := 5) (kc := 54) X Y (Lr_accepted hr hb1 (lb_no Y) (lb_no2 Y hle)) wr_blind (fun _ _ q => q.1) gL_accepted ⟨by decide, by decide, by decide⟩ ⟨Nat.le_of_ble_eq_true rfl, Nat.le_of_ble_eq_true rfl⟩ rfl hl.1 (Nat.le_of_ble_eq_true rfl) dL_law_552 ⟨rm_c (show cells + (τ.1 - σ.1) ≤ 590000 by omega), rm_s (show slots + (τ.2.1 - σ.2.1) ≤ 7150000 by omega)⟩ (fun H1 locs1 Z1 hK hz => ?_)
    exact lbr_accepted X hi hL ⟨(H1.size, 0, τ.2.2), A1, cs1, W3, U3, s0, W2, lb_Yn Y Z1 hle hz hK.2.1, I_at I1 hK.2.2, ⟨D1.1.1 0 0 (by decide), D1.1.2.2.1.trans hn⟩, I', fun j hj => by rw [D1.2.1 j]; exact hfl j hj, by omega, by omega⟩ hl kk
  · subst e2
    simp only [List.mem_cons, List.not_mem_nil, or_false] at hx9
    subst hx9
    subst e1
    refine lw_S (as := [.ref (A (0, 0)), .int (lb_p xs i 1), .int (lb_p xs i 2), .int (lb_p xs i 3), .ref o]) (rest := []) (na := 5) (kc := 54) X Y (Lx_accepted_x_ix hlt hr hb1 (lb_no Y)) wr_blindX (fun _ _ q => q) gL_accepted ⟨by decide, by decide, by decide⟩ ⟨Nat.le_of_ble_eq_true rfl, Nat.le_of_ble_eq_true rfl⟩ rfl hl.1 (Nat.le_of_ble_eq_true rfl) dL_law_552 ⟨rm_c (show cells + (τ.1 - τ.1 + 1) ≤ 590000 by omega), rm_s (show slots + (τ.2.1 - τ.2.1 + 6) ≤ 7150000 by omega)⟩ (fun H1 locs1 Z1 hK hz => ?_)
    exact lbr_accepted X hi hL ⟨(H1.size, 0, τ.2.2), A, cs, W1, U1, s0, W2, lb_Yn Y Z1 mj_le.rf hz hK, I_at I (by rw [Y.2.1.1]; exact hz), ⟨rfl, hn⟩, I', hfl, by omega, by omega⟩ hl kk
theorem lkr_members : Cond.methodLink RL 118 (tb_Y 134) ∈ tb_W := by decide +kernel
theorem gL_members : GoodIn lw_tbl (va_wsS RL 116 yL_members (wr_ws yL_members cL_members 5 [(0, 10, 13, 13)])) := wr_G (by decide +kernel) (by decide +kernel) (by decide +kernel) (by decide +kernel)
theorem lbr_members {k : Int32} (X : lb_X p l s m meth c b L xs ar D cL) (hi : i + 4 ≤ L) (hL : L ≤ 2049) (hK : lp_K s ar D cL B o a n (i + 4) H locs cells slots) (hl : lv_has ls 7 [(0, .ref b), (1, .ref a), (2, .ref B), (3, .ref o), (4, .int (nI i))]) (kk : ∀ (H1 : Heap) (locs1 : List Loc) (c1 s1 : Nat) (ls1 : Array Slot), lp_K s ar D cL B o a n (i + 4) H1 locs1 c1 s1 → lv_has ls1 7 [(0, .ref b), (1, .ref a), (2, .ref B), (3, .ref o), (4, .int (nI i))] → W p l e room_1 s m #[Value.ref b] below meth c H1 locs1 c1 s1 Q (F0 m 637 ls1 [])) : W p l e room_1 s m #[Value.ref b] below meth c H locs cells slots Q (F0 m 601 ls [.int k]) := by
  have X0 := X
  obtain ⟨⟨hx, hb, -⟩, -, -, hX, hbl, -⟩ := X0
  obtain ⟨σ, A, cs, W1, U1, s0, W2, Y, I, ⟨ha, hn⟩, I', hfl, hc, hs⟩ := hK
  have hn4 := cs_n4 I hn
  obtain ⟨rm1, rm2⟩ := ct_rm I
  refine lv_istore (lv' := (5, .int k) :: [(0, .ref b), (1, .ref a), (2, .ref B), (3, .ref o), (4, .int (nI i))]) hx hb dL_law_601 hl (by decide) rfl (fun ls hl => ?_)
  refine lv_aload_n hx hb dL_law_603 rfl (lv_at hl 3 rfl) ?_
  refine lv_aload_n hx hb dL_law_604 rfl (lv_at hl 1 rfl) ?_
  refine lv_iload hx hb dL_law_605 (lv_at hl 5 rfl) ?_
  refine lv_iconst (v := 1) hx hb dL_law_607 (by decide) ?_
  refine lv_iadd hx hb dL_law_608 ?_
  refine va_sld hx hb hX hbl (lb_nA hbl) Y.1.1 (lb_in (j := 1) (by omega) (by omega)) dL_law_609 ?_
  refine lv_aload_n hx hb dL_law_610 rfl (lv_at hl 1 rfl) ?_
  refine lv_iload hx hb dL_law_611 (lv_at hl 5 rfl) ?_
  refine lv_iconst (v := 2) hx hb dL_law_613 (by decide) ?_
  refine lv_iadd hx hb dL_law_614 ?_
  refine va_sld hx hb hX hbl (lb_nA hbl) Y.1.1 (lb_in (j := 2) (by omega) (by omega)) dL_law_615 ?_
  have hwp : mj_wp (tb ar) 134 (mj_en (tb ar) 134 (.ref B :: [.int (lb_p xs i 1), .int (lb_p xs i 2)]) (rs_st ar B H.size 0 s0)) (fun r τ => ∃ (v : Int32) (s' : rs_S), r = .inl (some (.int v)) ∧ τ = rs_st ar B H.size 0 s' ∧ rs_Zc s0 n s') := by
    have hZ : ∀ (r : Int32) (s' : rs_S), rs_Zc s0 n s' → ∃ (v : Int32) (s'' : rs_S), (Sum.inl (some (Value.int r)) : Option Value ⊕ String) = .inl (some (.int v)) ∧ rs_st ar B H.size 0 s' = rs_st ar B H.size 0 s'' ∧ rs_Zc s0 n s'' := fun r s' h => ⟨r, s', rfl, rfl, h⟩
    exact R_members hn4 I'.2.1 (fun r t => hZ r _ (Z_w I'))
  obtain ⟨⟨r9, τ9⟩, hR, v, s', e1, e2, ⟨W3, I3⟩, e3⟩ := hwp
  dsimp only at e1 e2
  subst e1
  subst e2
  refine lb_VY (kr := 134) (As := [.int (lb_p xs i 1), .int (lb_p xs i 2)]) (rest := []) X Y hR (by decide) rfl rfl rfl (Nat.le_of_ble_eq_true rfl) (fun w hw => by simp only [List.mem_cons, List.not_mem_nil, or_false] at hw; rcases hw with rfl | rfl <;> rfl) lkr_members ⟨Nat.le_of_ble_eq_true rfl, Nat.le_of_ble_eq_true rfl⟩ hl.1 (Nat.le_of_ble_eq_true rfl) dL_law_616 ⟨rm_c (show cells ≤ 590000 by omega), rm_s (show slots ≤ 7150000 by omega)⟩ (fun H1 locs1 Y1 ho => ?_)
  refine lv_istore (lv' := (6, .int v) :: (5, .int k) :: [(0, .ref b), (1, .ref a), (2, .ref B), (3, .ref o), (4, .int (nI i))]) hx hb dL_law_619 hl (by decide) rfl (fun ls hl => ?_)
  refine lv_goto (tgt := 637) hx hb dL_law_621 (by decide) ?_
  exact kk H1 locs1 cells slots ls ⟨σ, A, cs, W1, U1, s', W3, Y1, I, ⟨ha, hn⟩, I3, fun j hj => by rw [e3]; exact hfl j hj, hc, hs⟩ (lv_sub hl [2, 3, 4, 5, 6] rfl)
theorem lbc_members (X : lb_X p l s m meth c b L xs ar D cL) (hi : i + 4 ≤ L) (hL : L ≤ 2049) (hK : lp_K s ar D cL B o a n i H locs cells slots) (hl : lv_has ls 7 [(0, .ref b), (1, .ref a), (2, .ref B), (3, .ref o), (4, .int (nI i))]) (kk : ∀ (H1 : Heap) (locs1 : List Loc) (c1 s1 : Nat) (ls1 : Array Slot), lp_K s ar D cL B o a n (i + 4) H1 locs1 c1 s1 → lv_has ls1 7 [(0, .ref b), (1, .ref a), (2, .ref B), (3, .ref o), (4, .int (nI i))] → W p l e room_1 s m #[Value.ref b] below meth c H1 locs1 c1 s1 Q (F0 m 637 ls1 [])) : W p l e room_1 s m #[Value.ref b] below meth c H locs cells slots Q (F0 m 584 ls []) := by
  have X0 := X
  obtain ⟨⟨hx, hb, -⟩, -, -, hX, hbl, -, -, -, -, hlt⟩ := X0
  obtain ⟨σ, A, cs, W1, U1, s0, W2, Y, I, ⟨ha, hn⟩, I', hfl, hc, hs⟩ := hK
  subst ha
  obtain ⟨rm1, rm2⟩ := ct_rm I
  obtain ⟨fs, hb1⟩ := cI_0 I
  refine lv_aload_n hx hb dL_law_584 rfl (lv_at hl 1 rfl) ?_
  refine lv_aload_n hx hb dL_law_585 rfl (lv_at hl 0 rfl) ?_
  refine lv_iload hx hb dL_law_586 (lv_at hl 4 rfl) ?_
  refine lv_iconst (v := 1) hx hb dL_law_588 (by decide) ?_
  refine lv_iadd hx hb dL_law_589 ?_
  refine va_sld hx hb hX hbl (lb_nA hbl) Y.1.1 (lb_in (j := 1) (by omega) (by omega)) dL_law_590 ?_
  refine lv_aload_n hx hb dL_law_591 rfl (lv_at hl 0 rfl) ?_
  refine lv_iload hx hb dL_law_592 (lv_at hl 4 rfl) ?_
  refine lv_iconst (v := 2) hx hb dL_law_594 (by decide) ?_
  refine lv_iadd hx hb dL_law_595 ?_
  refine va_sld hx hb hX hbl (lb_nA hbl) Y.1.1 (lb_in (j := 2) (by omega) (by omega)) dL_law_596 ?_
  refine lv_aload_n hx hb dL_law_597 rfl (lv_at hl 3 rfl) ?_
  have hwp : mj_wp (tb ar) 55 (mj_en (tb ar) 55 (.ref (A (0, 0)) :: [.int (lb_p xs i 1), .int (lb_p xs i 2)]) σ) (cl_Q [x_ix] ar A cs σ) := C_members I (Or.inr ⟨x_ix, List.mem_cons_self, rfl, rfl⟩) (fun r => Or.inl ⟨r, rfl, A, cs, W1, U1, I, D_rf⟩)
  obtain ⟨⟨r9, τ⟩, hr, hcl⟩ := hwp
  dsimp only at hcl
  rcases hcl with ⟨v, e1, A1, cs1, W3, U3, I1, D1⟩ | ⟨x9, hx9, e1, e2⟩
  · subst e1
    have hle : mj_le σ τ := R_le hr
    obtain ⟨rm3, rm4⟩ := ct_rm I1
    have ac := D1.1.2.2.2.2
    have h1 := hle.1
    have h2 := hle.2.1
    refine lw_S (as := [.ref (A (0, 0)), .int (lb_p xs i 1), .int (lb_p xs i 2), .ref o]) (rest := []) (na := 4) (kc := 55) X Y (Lr_members hr hb1 (lb_no Y) (lb_no2 Y hle)) wr_blind (fun _ _ q => q.1) gL_members ⟨by decide, by decide, by decide⟩ ⟨Nat.le_of_ble_eq_true rfl, Nat.le_of_ble_eq_true rfl⟩ rfl hl.1 (Nat.le_of_ble_eq_true rfl) dL_law_598 ⟨rm_c (show cells + (τ.1 - σ.1) ≤ 590000 by omega), rm_s (show slots + (τ.2.1 - σ.2.1) ≤ 7150000 by omega)⟩ (fun H1 locs1 Z1 hK hz => ?_)
    exact lbr_members X hi hL ⟨(H1.size, 0, τ.2.2), A1, cs1, W3, U3, s0, W2, lb_Yn Y Z1 hle hz hK.2.1, I_at I1 hK.2.2, ⟨D1.1.1 0 0 (by decide), D1.1.2.2.1.trans hn⟩, I', fun j hj => by rw [D1.2.1 j]; exact hfl j hj, by omega, by omega⟩ hl kk
  · subst e2
    simp only [List.mem_cons, List.not_mem_nil, or_false] at hx9
    subst hx9
    subst e1
    refine lw_S (as := [.ref (A (0, 0)), .int (lb_p xs i 1), .int (lb_p xs i 2), .ref o]) (rest := []) (na := 4) (kc := 55) X Y (Lx_members_x_ix hlt hr hb1 (lb_no Y)) wr_blindX (fun _ _ q => q) gL_members ⟨by decide, by decide, by decide⟩ ⟨Nat.le_of_ble_eq_true rfl, Nat.le_of_ble_eq_true rfl⟩ rfl hl.1 (Nat.le_of_ble_eq_true rfl) dL_law_598 ⟨rm_c (show cells + (τ.1 - τ.1 + 1) ≤ 590000 by omega), rm_s (show slots + (τ.2.1 - τ.2.1 + 6) ≤ 7150000 by omega)⟩ (fun H1 locs1 Z1 hK hz => ?_)
    exact lbr_members X hi hL ⟨(H1.size, 0, τ.2.2), A, cs, W1, U1, s0, W2, lb_Yn Y Z1 mj_le.rf hz hK, I_at I (by rw [Y.2.1.1]; exact hz), ⟨rfl, hn⟩, I', hfl, by omega, by omega⟩ hl kk
end LO
