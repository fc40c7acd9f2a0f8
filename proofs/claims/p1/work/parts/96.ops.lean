section LO
variable {p : Program} {l : Launch} {e : Env} {s : State} {m : MethodId} {below : List Frame} {meth : Method} {c : Code} {H : Heap} {locs : List Loc} {cells slots : Nat} {Q : State → Prop} {ls : Array Slot} {ar : Nat → ClassId} {D : va_G} {σ : mj_S} {A : tg_T → Nat} {b a B o n : Nat} {cL : ClassId} {xs : Nat → Int32} {s' : rs_S} {rest : List Value}
/-- a boolean out of an int -/
def lb_z (x : Int32) : Int32 := if x = 0 then 0 else 1
theorem lb_z_or {x : Int32} : lb_z x = 0 ∨ lb_z x = 1 := by
  unfold lb_z
  by_cases h : x = 0
  · exact Or.inl (if_pos h)
  · exact Or.inr (if_neg h)
theorem lb_bool {R : Room} {pc : Nat} {args : Array Value} {x : Int32} (hx : p.tables.exec = Jvm.exec) (hb : c.code = cL_law) (d0 : decode cL_law pc = .ok (.ifCond .eq 7, 3)) (d3 : decode cL_law (pc + 3) = .ok (.iconst 1, 1)) (d4 : decode cL_law (pc + 4) = .ok (.goto 4, 3)) (d7 : decode cL_law (pc + 7) = .ok (.iconst 0, 1)) (kk : W p l e R s m args below meth c H locs cells slots Q (F0 m (pc + 8) ls (.int (lb_z x) :: rest))) : W p l e R s m args below meth c H locs cells slots Q (F0 m pc ls (.int x :: rest)) := by
  refine lv_if_eq (tgt := pc + 7) hx hb d0 (by omega) (fun h => ?_) (fun h => ?_)
  · refine lv_iconst (v := 0) hx hb d7 (by decide) ?_
    rw [show lb_z x = 0 from if_pos h] at kk
    exact kk
  · refine lv_iconst (v := 1) hx hb d3 (by decide) ?_
    refine lv_goto (tgt := pc + 8) hx hb d4 (by omega) ?_
    rw [show lb_z x = 1 from if_neg h] at kk
    exact kk
theorem lb_no {s0 : rs_S} (Y : lb_Y s ar D cL B o s0 σ H locs) : ¬ mj_A σ o := by
  obtain ⟨⟨hS, hsB, hRf, ho1, ho2⟩, hH, hdom, -⟩ := Y
  rintro (⟨x, hx⟩ | h)
  · have := (hdom o x hx).2
    omega
  · rw [hH.1] at h
    omega
/-- a call of the class that leaves its object as it was -/
theorem lb_CV {kc ix : Nat} {R : Room} {L pc : Nat} {s0 : rs_S} {v : Option Value} {fs : List Value} (X : lb_X p l s m meth c b L xs ar D cL) (Y : lb_Y s ar D cL B o s0 σ H locs) (hr : mj_R (tb ar) kc (mj_en (tb ar) kc [.ref a] σ) (.inl v, σ)) (hb1 : σ.2.2 a = some (.inr (mj_o (tb ar) kc, fs))) (hy : kc < 138) (hkd : mj_kd (tb ar) kc = 0) (hn : 0 = mj_na (tb ar) kc - 1) (hal : 1 ≤ mj_mL (tb ar) kc) (hlk : Cond.methodLink RL ix (tb_Y kc) ∈ tb_W) (hroom : mj_fr (tb ar) kc + 1 ≤ R.frames ∧ 8 + (mj_mL (tb ar) kc + 11) + mj_lo (tb ar) kc ≤ R.locals) (hls : ls.size = 7) (hrest : 2 * 0 + (rest.map fun v => v.category).sum ≤ 8) (hdg : decode cL_law pc = .ok (.invokevirtual ix, 3)) (hf : cells ≤ R.cells ∧ slots ≤ R.slots)
    (kk : ∀ (H1 : Heap) (locs1 : List Loc), lb_Z s ar D B o s0 H1 locs1 → W p l e R s m #[Value.ref b] below meth c H1 locs1 cells slots Q (F0 m (pc + 3) ls (v.toList ++ rest))) : W p l e R s m #[Value.ref b] below meth c H locs cells slots Q (F0 m pc ls (.ref a :: rest)) := by
  have hno := lb_no Y
  obtain ⟨C, -⟩ := X
  obtain ⟨⟨hS, hsB, hRf, ho1, ho2⟩, hH, hdom, -⟩ := Y
  have e1 : cells + (σ.1 - σ.1) = cells := by omega
  have e2 : slots + (σ.2.1 - σ.2.1) = slots := by omega
  refine lw_V (As := []) (σ := σ) (σ1 := σ) (A := lb_A s) C hr hy hkd hn hal (fun w hw => by cases hw) hlk hb1 hH hS (fun a x h => (hdom a x h).1) (fun q h => h) hroom hls hrest hdg ⟨by rw [e1]; exact hf.1, by rw [e2]; exact hf.2⟩ (fun H1 locs1 hH1 hS1 hz hk => ?_)
  rw [e1, e2]
  refine kk H1 locs1 ⟨hS1, hsB, lb_keep hRf hk (fun q h1 h2 h3 hq => ?_), ho1, by omega⟩
  rcases hq with ⟨x, hx⟩ | hq
  · have := (hdom q x hx).2
    omega
  · rw [hH.1] at hq
    omega
theorem lkr_submit : Cond.methodLink RL 70 (tb_Y 110) ∈ tb_W := by decide +kernel
theorem lbr_submit {k : Int32} (X : lb_X p l s m meth c b 5 xs ar D cL) (Z : lb_Z s ar D B o (rs_0 n) H locs) (hr : ∀ z q : Nat, ∃ (s' : rs_S) (r : Int32), s'.1 0 = k ∧ (k = 0 → ∃ f, H[o]? = some (arrV cL 1 f) ∧ f 0 = .long r.toInt64) ∧ mj_R (tb ar) 110 (mj_en (tb ar) 110 (.ref B :: [.int (lb_p xs 1), .int (lb_p xs 2)]) (rs_st ar B z q (rs_0 n))) (.inl (some (.int r)), rs_st ar B z q s')) (hl : lv_has ls 7 [(0, .ref b), (1, .ref a), (2, .ref B), (3, .ref o), (4, .int 1)]) (hc : cells ≤ 590000) (hs : slots ≤ 7150000) : W p l e room_1 s m #[Value.ref b] below meth c H locs cells slots (lw_Z below #[Value.ref b] s) (F0 m 141 ls [.int k]) := by
  have X0 := X
  obtain ⟨⟨hx, hb, -⟩, -, -, hX, hbl, -⟩ := X0
  refine lv_istore (lv' := (5, .int k) :: [(0, .ref b), (1, .ref a), (2, .ref B), (3, .ref o), (4, .int 1)]) hx hb dL_law_141 hl (by decide) rfl (fun ls hl => ?_)
  refine lv_aload_n hx hb dL_law_143 rfl (lv_at hl 3 rfl) ?_
  refine lv_aload_n hx hb dL_law_144 rfl (lv_at hl 1 rfl) ?_
  refine lv_iload hx hb dL_law_145 (lv_at hl 5 rfl) ?_
  refine lv_iconst (v := 1) hx hb dL_law_147 (by decide) ?_
  refine lv_iadd hx hb dL_law_148 ?_
  refine va_sld hx hb hX hbl (lb_nA hbl) Z.1 lb_i1 dL_law_149 ?_
  refine lv_aload_n hx hb dL_law_150 rfl (lv_at hl 1 rfl) ?_
  refine lv_iload hx hb dL_law_151 (lv_at hl 5 rfl) ?_
  refine lv_iconst (v := 2) hx hb dL_law_153 (by decide) ?_
  refine lv_iadd hx hb dL_law_154 ?_
  refine va_sld hx hb hX hbl (lb_nA hbl) Z.1 lb_i2 dL_law_155 ?_
  obtain ⟨s', r, h0, hout, hR⟩ := hr H.size 0
  refine lb_V (kr := 110) (As := [.int (lb_p xs 1), .int (lb_p xs 2)]) (rest := []) X Z hR (by decide) rfl rfl rfl (Nat.le_of_ble_eq_true rfl) (fun w hw => by simp only [List.mem_cons, List.not_mem_nil, or_false] at hw; rcases hw with rfl | rfl <;> rfl) lkr_submit ⟨Nat.le_of_ble_eq_true rfl, Nat.le_of_ble_eq_true rfl⟩ hl.1 (Nat.le_of_ble_eq_true rfl) dL_law_156 ⟨rm_c hc, rm_s hs⟩ (fun H1 locs1 Z1 ho => ?_)
  exact lb_tail X Z1 h0 (fun hk => by obtain ⟨f, g1, g2⟩ := hout hk; exact ⟨f, by rw [ho]; exact g1, g2⟩) hl hc hs dL_law_159 dL_law_161 dL_law_162 dL_law_165 dL_law_167 dL_law_172 dL_law_174 dL_law_177 dL_law_178 dL_law_179 dL_law_180 dL_law_182 dL_law_183 dL_law_184 dL_law_189 (by decide)
theorem gL_submit : GoodIn lw_tbl (va_wsS RL 67 yL_submit (wr_ws yL_submit cL_submit 5 [(0, 10, 13, 13), (0, 10, 17, 15), (0, 10, 21, 17)])) := wr_G (by decide +kernel) (by decide +kernel) (by decide +kernel) (by decide +kernel)
theorem lbc_submit (X : lb_X p l s m meth c b 5 xs ar D cL) (Y : lb_Y s ar D cL B o (rs_0 n) σ H locs) (hT : tg_R A (cs_h ar A (cs_0 n)) σ) (hn : n = 2 ∨ n = 3 ∨ n = 4 ∨ n = 5) (hl : lv_has ls 7 [(0, .ref b), (1, .ref (A (0, 0))), (2, .ref B), (3, .ref o), (4, .int 1)]) (hc : cells ≤ 500000) (hs : slots ≤ 7000000) : W p l e room_1 s m #[Value.ref b] below meth c H locs cells slots (lw_Z below #[Value.ref b] s) (F0 m 124 ls []) := by
  have X0 := X
  obtain ⟨⟨hx, hb, -⟩, -, -, hX, hbl, -, -, -, -, hlt⟩ := X0
  have hb1 := hT.1 (0, 0) _ rfl
  refine lv_aload_n hx hb dL_law_124 rfl (lv_at hl 1 rfl) ?_
  refine lv_aload_n hx hb dL_law_125 rfl (lv_at hl 0 rfl) ?_
  refine lv_iload hx hb dL_law_126 (lv_at hl 4 rfl) ?_
  refine lv_iconst (v := 1) hx hb dL_law_128 (by decide) ?_
  refine lv_iadd hx hb dL_law_129 ?_
  refine va_sld hx hb hX hbl (lb_nA hbl) Y.1.1 lb_i1 dL_law_130 ?_
  refine lv_aload_n hx hb dL_law_131 rfl (lv_at hl 0 rfl) ?_
  refine lv_iload hx hb dL_law_132 (lv_at hl 4 rfl) ?_
  refine lv_iconst (v := 2) hx hb dL_law_134 (by decide) ?_
  refine lv_iadd hx hb dL_law_135 ?_
  refine va_sld hx hb hX hbl (lb_nA hbl) Y.1.1 lb_i2 dL_law_136 ?_
  refine lv_aload_n hx hb dL_law_137 rfl (lv_at hl 3 rfl) ?_
  rcases sm_submit (ar := ar) (v := lb_p xs 1) (c := lb_p xs 2) (B := B) hT hn with h | h | h
  · obtain ⟨v, τ, hr, hz, hq, href⟩ := h
    refine lw_S (as := [.ref (A (0, 0)), .int (lb_p xs 1), .int (lb_p xs 2), .ref o]) (rest := []) (na := 4) (kc := 42) X Y (Lr_submit hr hb1 (lb_no Y)) wr_blind (fun _ _ q => q.1) gL_submit ⟨by decide, by decide, by decide⟩ ⟨Nat.le_of_ble_eq_true rfl, Nat.le_of_ble_eq_true rfl⟩ rfl hl.1 (Nat.le_of_ble_eq_true rfl) dL_law_138 ⟨rm_c (show cells + (τ.1 - σ.1) ≤ 590000 by omega), rm_s (show slots + (τ.2.1 - σ.2.1) ≤ 7150000 by omega)⟩ (fun H1 locs1 Z1 hK => ?_)
    refine lbr_submit X Z1 (fun z q => ?_) hl (by omega) (by omega)
    obtain ⟨s', h0, hR⟩ := href z q
    exact ⟨s', v, h0, fun _ => hK, hR⟩
  · obtain ⟨hr, href⟩ := h
    refine lw_S (as := [.ref (A (0, 0)), .int (lb_p xs 1), .int (lb_p xs 2), .ref o]) (rest := []) (na := 4) (kc := 42) X Y (Lx_submit_x_ix hlt hr hb1) wr_blindX (fun _ _ q => q) gL_submit ⟨by decide, by decide, by decide⟩ ⟨Nat.le_of_ble_eq_true rfl, Nat.le_of_ble_eq_true rfl⟩ rfl hl.1 (Nat.le_of_ble_eq_true rfl) dL_law_138 ⟨rm_c (show cells + (σ.1 - σ.1 + 1) ≤ 590000 by omega), rm_s (show slots + (σ.2.1 - σ.2.1 + 6) ≤ 7150000 by omega)⟩ (fun H1 locs1 Z1 hK => ?_)
    refine lbr_submit X Z1 (fun z q => ?_) hl (by omega) (by omega)
    obtain ⟨s', r, h0, hR⟩ := href z q
    exact ⟨s', r, h0, fun hk => absurd hk (by decide), hR⟩
  · obtain ⟨hr, href⟩ := h
    refine lw_S (as := [.ref (A (0, 0)), .int (lb_p xs 1), .int (lb_p xs 2), .ref o]) (rest := []) (na := 4) (kc := 42) X Y (Lx_submit_x_ar hlt hr hb1) wr_blindX (fun _ _ q => q) gL_submit ⟨by decide, by decide, by decide⟩ ⟨Nat.le_of_ble_eq_true rfl, Nat.le_of_ble_eq_true rfl⟩ rfl hl.1 (Nat.le_of_ble_eq_true rfl) dL_law_138 ⟨rm_c (show cells + (σ.1 - σ.1 + 1) ≤ 590000 by omega), rm_s (show slots + (σ.2.1 - σ.2.1 + 6) ≤ 7150000 by omega)⟩ (fun H1 locs1 Z1 hK => ?_)
    refine lbr_submit X Z1 (fun z q => ?_) hl (by omega) (by omega)
    obtain ⟨s', r, h0, hR⟩ := href z q
    exact ⟨s', r, h0, fun hk => absurd hk (by decide), hR⟩
theorem lkr_campaign : Cond.methodLink RL 78 (tb_Y 111) ∈ tb_W := by decide +kernel
theorem lbr_campaign {k : Int32} (X : lb_X p l s m meth c b 5 xs ar D cL) (Z : lb_Z s ar D B o (rs_0 n) H locs) (hr : ∀ z q : Nat, ∃ (s' : rs_S) (r : Int32), s'.1 0 = k ∧ (k = 0 → ∃ f, H[o]? = some (arrV cL 1 f) ∧ f 0 = .long r.toInt64) ∧ mj_R (tb ar) 111 (mj_en (tb ar) 111 (.ref B :: [.int (lb_p xs 1)]) (rs_st ar B z q (rs_0 n))) (.inl (some (.int r)), rs_st ar B z q s')) (hl : lv_has ls 7 [(0, .ref b), (1, .ref a), (2, .ref B), (3, .ref o), (4, .int 1)]) (hc : cells ≤ 590000) (hs : slots ≤ 7150000) : W p l e room_1 s m #[Value.ref b] below meth c H locs cells slots (lw_Z below #[Value.ref b] s) (F0 m 203 ls [.int k]) := by
  have X0 := X
  obtain ⟨⟨hx, hb, -⟩, -, -, hX, hbl, -⟩ := X0
  refine lv_istore (lv' := (5, .int k) :: [(0, .ref b), (1, .ref a), (2, .ref B), (3, .ref o), (4, .int 1)]) hx hb dL_law_203 hl (by decide) rfl (fun ls hl => ?_)
  refine lv_aload_n hx hb dL_law_205 rfl (lv_at hl 3 rfl) ?_
  refine lv_aload_n hx hb dL_law_206 rfl (lv_at hl 1 rfl) ?_
  refine lv_iload hx hb dL_law_207 (lv_at hl 5 rfl) ?_
  refine lv_iconst (v := 1) hx hb dL_law_209 (by decide) ?_
  refine lv_iadd hx hb dL_law_210 ?_
  refine va_sld hx hb hX hbl (lb_nA hbl) Z.1 lb_i1 dL_law_211 ?_
  obtain ⟨s', r, h0, hout, hR⟩ := hr H.size 0
  refine lb_V (kr := 111) (As := [.int (lb_p xs 1)]) (rest := []) X Z hR (by decide) rfl rfl rfl (Nat.le_of_ble_eq_true rfl) (fun w hw => by simp only [List.mem_cons, List.not_mem_nil, or_false] at hw; subst hw; rfl) lkr_campaign ⟨Nat.le_of_ble_eq_true rfl, Nat.le_of_ble_eq_true rfl⟩ hl.1 (Nat.le_of_ble_eq_true rfl) dL_law_212 ⟨rm_c hc, rm_s hs⟩ (fun H1 locs1 Z1 ho => ?_)
  exact lb_tail X Z1 h0 (fun hk => by obtain ⟨f, g1, g2⟩ := hout hk; exact ⟨f, by rw [ho]; exact g1, g2⟩) hl hc hs dL_law_215 dL_law_217 dL_law_218 dL_law_221 dL_law_223 dL_law_228 dL_law_230 dL_law_233 dL_law_234 dL_law_235 dL_law_236 dL_law_238 dL_law_239 dL_law_240 dL_law_245 (by decide)
theorem gL_campaign : GoodIn lw_tbl (va_wsS RL 75 yL_campaign (wr_ws yL_campaign cL_campaign 4 [(0, 9, 12, 13), (0, 9, 15, 17)])) := wr_G (by decide +kernel) (by decide +kernel) (by decide +kernel) (by decide +kernel)
theorem lbc_campaign (X : lb_X p l s m meth c b 5 xs ar D cL) (Y : lb_Y s ar D cL B o (rs_0 n) σ H locs) (hT : tg_R A (cs_h ar A (cs_0 n)) σ) (hn : n = 2 ∨ n = 3 ∨ n = 4 ∨ n = 5) (hl : lv_has ls 7 [(0, .ref b), (1, .ref (A (0, 0))), (2, .ref B), (3, .ref o), (4, .int 1)]) (hc : cells ≤ 500000) (hs : slots ≤ 7000000) : W p l e room_1 s m #[Value.ref b] below meth c H locs cells slots (lw_Z below #[Value.ref b] s) (F0 m 192 ls []) := by
  have X0 := X
  obtain ⟨⟨hx, hb, -⟩, -, -, hX, hbl, -, -, -, -, hlt⟩ := X0
  have hb1 := hT.1 (0, 0) _ rfl
  refine lv_aload_n hx hb dL_law_192 rfl (lv_at hl 1 rfl) ?_
  refine lv_aload_n hx hb dL_law_193 rfl (lv_at hl 0 rfl) ?_
  refine lv_iload hx hb dL_law_194 (lv_at hl 4 rfl) ?_
  refine lv_iconst (v := 1) hx hb dL_law_196 (by decide) ?_
  refine lv_iadd hx hb dL_law_197 ?_
  refine va_sld hx hb hX hbl (lb_nA hbl) Y.1.1 lb_i1 dL_law_198 ?_
  refine lv_aload_n hx hb dL_law_199 rfl (lv_at hl 3 rfl) ?_
  rcases sm_campaign (ar := ar) (v := lb_p xs 1) (B := B) hT hn with h | h
  · obtain ⟨v, τ, hr, hz, hq, href⟩ := h
    refine lw_S (as := [.ref (A (0, 0)), .int (lb_p xs 1), .ref o]) (rest := []) (na := 3) (kc := 43) X Y (Lr_campaign hr hb1 (lb_no Y)) wr_blind (fun _ _ q => q.1) gL_campaign ⟨by decide, by decide, by decide⟩ ⟨Nat.le_of_ble_eq_true rfl, Nat.le_of_ble_eq_true rfl⟩ rfl hl.1 (Nat.le_of_ble_eq_true rfl) dL_law_200 ⟨rm_c (show cells + (τ.1 - σ.1) ≤ 590000 by omega), rm_s (show slots + (τ.2.1 - σ.2.1) ≤ 7150000 by omega)⟩ (fun H1 locs1 Z1 hK => ?_)
    refine lbr_campaign X Z1 (fun z q => ?_) hl (by omega) (by omega)
    obtain ⟨s', h0, hR⟩ := href z q
    exact ⟨s', v, h0, fun _ => hK, hR⟩
  · obtain ⟨hr, href⟩ := h
    refine lw_S (as := [.ref (A (0, 0)), .int (lb_p xs 1), .ref o]) (rest := []) (na := 3) (kc := 43) X Y (Lx_campaign_x_ix hlt hr hb1) wr_blindX (fun _ _ q => q) gL_campaign ⟨by decide, by decide, by decide⟩ ⟨Nat.le_of_ble_eq_true rfl, Nat.le_of_ble_eq_true rfl⟩ rfl hl.1 (Nat.le_of_ble_eq_true rfl) dL_law_200 ⟨rm_c (show cells + (σ.1 - σ.1 + 1) ≤ 590000 by omega), rm_s (show slots + (σ.2.1 - σ.2.1 + 6) ≤ 7150000 by omega)⟩ (fun H1 locs1 Z1 hK => ?_)
    refine lbr_campaign X Z1 (fun z q => ?_) hl (by omega) (by omega)
    obtain ⟨s', r, h0, hR⟩ := href z q
    exact ⟨s', r, h0, fun hk => absurd hk (by decide), hR⟩
theorem lkr_deliver : Cond.methodLink RL 81 (tb_Y 115) ∈ tb_W := by decide +kernel
theorem lbr_deliver {k : Int32} (X : lb_X p l s m meth c b 5 xs ar D cL) (Z : lb_Z s ar D B o (rs_0 n) H locs) (hr : ∀ z q : Nat, ∃ (s' : rs_S) (r : Int32), s'.1 0 = k ∧ (k = 0 → ∃ f, H[o]? = some (arrV cL 1 f) ∧ f 0 = .long r.toInt64) ∧ mj_R (tb ar) 115 (mj_en (tb ar) 115 (.ref B :: [.int (lb_p xs 1)]) (rs_st ar B z q (rs_0 n))) (.inl (some (.int r)), rs_st ar B z q s')) (hl : lv_has ls 7 [(0, .ref b), (1, .ref a), (2, .ref B), (3, .ref o), (4, .int 1)]) (hc : cells ≤ 590000) (hs : slots ≤ 7150000) : W p l e room_1 s m #[Value.ref b] below meth c H locs cells slots (lw_Z below #[Value.ref b] s) (F0 m 259 ls [.int k]) := by
  have X0 := X
  obtain ⟨⟨hx, hb, -⟩, -, -, hX, hbl, -⟩ := X0
  refine lv_istore (lv' := (5, .int k) :: [(0, .ref b), (1, .ref a), (2, .ref B), (3, .ref o), (4, .int 1)]) hx hb dL_law_259 hl (by decide) rfl (fun ls hl => ?_)
  refine lv_aload_n hx hb dL_law_261 rfl (lv_at hl 3 rfl) ?_
  refine lv_aload_n hx hb dL_law_262 rfl (lv_at hl 1 rfl) ?_
  refine lv_iload hx hb dL_law_263 (lv_at hl 5 rfl) ?_
  refine lv_iconst (v := 1) hx hb dL_law_265 (by decide) ?_
  refine lv_iadd hx hb dL_law_266 ?_
  refine va_sld hx hb hX hbl (lb_nA hbl) Z.1 lb_i1 dL_law_267 ?_
  obtain ⟨s', r, h0, hout, hR⟩ := hr H.size 0
  refine lb_V (kr := 115) (As := [.int (lb_p xs 1)]) (rest := []) X Z hR (by decide) rfl rfl rfl (Nat.le_of_ble_eq_true rfl) (fun w hw => by simp only [List.mem_cons, List.not_mem_nil, or_false] at hw; subst hw; rfl) lkr_deliver ⟨Nat.le_of_ble_eq_true rfl, Nat.le_of_ble_eq_true rfl⟩ hl.1 (Nat.le_of_ble_eq_true rfl) dL_law_268 ⟨rm_c hc, rm_s hs⟩ (fun H1 locs1 Z1 ho => ?_)
  exact lb_tail X Z1 h0 (fun hk => by obtain ⟨f, g1, g2⟩ := hout hk; exact ⟨f, by rw [ho]; exact g1, g2⟩) hl hc hs dL_law_271 dL_law_273 dL_law_274 dL_law_277 dL_law_279 dL_law_284 dL_law_286 dL_law_289 dL_law_290 dL_law_291 dL_law_292 dL_law_294 dL_law_295 dL_law_296 dL_law_301 (by decide)
theorem gL_deliver : GoodIn lw_tbl (va_wsS RL 79 yL_deliver (wr_ws yL_deliver cL_deliver 4 [(0, 9, 12, 13)])) := wr_G (by decide +kernel) (by decide +kernel) (by decide +kernel) (by decide +kernel)
theorem lbc_deliver (X : lb_X p l s m meth c b 5 xs ar D cL) (Y : lb_Y s ar D cL B o (rs_0 n) σ H locs) (hT : tg_R A (cs_h ar A (cs_0 n)) σ) (hn : n = 2 ∨ n = 3 ∨ n = 4 ∨ n = 5) (hl : lv_has ls 7 [(0, .ref b), (1, .ref (A (0, 0))), (2, .ref B), (3, .ref o), (4, .int 1)]) (hc : cells ≤ 500000) (hs : slots ≤ 7000000) : W p l e room_1 s m #[Value.ref b] below meth c H locs cells slots (lw_Z below #[Value.ref b] s) (F0 m 248 ls []) := by
  have X0 := X
  obtain ⟨⟨hx, hb, -⟩, -, -, hX, hbl, -, -, -, -, hlt⟩ := X0
  have hb1 := hT.1 (0, 0) _ rfl
  refine lv_aload_n hx hb dL_law_248 rfl (lv_at hl 1 rfl) ?_
  refine lv_aload_n hx hb dL_law_249 rfl (lv_at hl 0 rfl) ?_
  refine lv_iload hx hb dL_law_250 (lv_at hl 4 rfl) ?_
  refine lv_iconst (v := 1) hx hb dL_law_252 (by decide) ?_
  refine lv_iadd hx hb dL_law_253 ?_
  refine va_sld hx hb hX hbl (lb_nA hbl) Y.1.1 lb_i1 dL_law_254 ?_
  refine lv_aload_n hx hb dL_law_255 rfl (lv_at hl 3 rfl) ?_
  have h := sm_deliver (ar := ar) (v := lb_p xs 1) (B := B) hT hn
  obtain ⟨hr, href⟩ := h
  refine lw_S (as := [.ref (A (0, 0)), .int (lb_p xs 1), .ref o]) (rest := []) (na := 3) (kc := 44) X Y (Lx_deliver_x_ix hlt hr hb1) wr_blindX (fun _ _ q => q) gL_deliver ⟨by decide, by decide, by decide⟩ ⟨Nat.le_of_ble_eq_true rfl, Nat.le_of_ble_eq_true rfl⟩ rfl hl.1 (Nat.le_of_ble_eq_true rfl) dL_law_256 ⟨rm_c (show cells + (σ.1 - σ.1 + 1) ≤ 590000 by omega), rm_s (show slots + (σ.2.1 - σ.2.1 + 6) ≤ 7150000 by omega)⟩ (fun H1 locs1 Z1 hK => ?_)
  refine lbr_deliver X Z1 (fun z q => ?_) hl (by omega) (by omega)
  obtain ⟨s', r, h0, hR⟩ := href z q
  exact ⟨s', r, h0, fun hk => absurd hk (by decide), hR⟩
theorem lkr_lose : Cond.methodLink RL 84 (tb_Y 116) ∈ tb_W := by decide +kernel
theorem lbr_lose {k : Int32} (X : lb_X p l s m meth c b 5 xs ar D cL) (Z : lb_Z s ar D B o (rs_0 n) H locs) (hr : ∀ z q : Nat, ∃ (s' : rs_S) (r : Int32), s'.1 0 = k ∧ (k = 0 → ∃ f, H[o]? = some (arrV cL 1 f) ∧ f 0 = .long r.toInt64) ∧ mj_R (tb ar) 116 (mj_en (tb ar) 116 (.ref B :: [.int (lb_p xs 1)]) (rs_st ar B z q (rs_0 n))) (.inl (some (.int r)), rs_st ar B z q s')) (hl : lv_has ls 7 [(0, .ref b), (1, .ref a), (2, .ref B), (3, .ref o), (4, .int 1)]) (hc : cells ≤ 590000) (hs : slots ≤ 7150000) : W p l e room_1 s m #[Value.ref b] below meth c H locs cells slots (lw_Z below #[Value.ref b] s) (F0 m 315 ls [.int k]) := by
  have X0 := X
  obtain ⟨⟨hx, hb, -⟩, -, -, hX, hbl, -⟩ := X0
  refine lv_istore (lv' := (5, .int k) :: [(0, .ref b), (1, .ref a), (2, .ref B), (3, .ref o), (4, .int 1)]) hx hb dL_law_315 hl (by decide) rfl (fun ls hl => ?_)
  refine lv_aload_n hx hb dL_law_317 rfl (lv_at hl 3 rfl) ?_
  refine lv_aload_n hx hb dL_law_318 rfl (lv_at hl 1 rfl) ?_
  refine lv_iload hx hb dL_law_319 (lv_at hl 5 rfl) ?_
  refine lv_iconst (v := 1) hx hb dL_law_321 (by decide) ?_
  refine lv_iadd hx hb dL_law_322 ?_
  refine va_sld hx hb hX hbl (lb_nA hbl) Z.1 lb_i1 dL_law_323 ?_
  obtain ⟨s', r, h0, hout, hR⟩ := hr H.size 0
  refine lb_V (kr := 116) (As := [.int (lb_p xs 1)]) (rest := []) X Z hR (by decide) rfl rfl rfl (Nat.le_of_ble_eq_true rfl) (fun w hw => by simp only [List.mem_cons, List.not_mem_nil, or_false] at hw; subst hw; rfl) lkr_lose ⟨Nat.le_of_ble_eq_true rfl, Nat.le_of_ble_eq_true rfl⟩ hl.1 (Nat.le_of_ble_eq_true rfl) dL_law_324 ⟨rm_c hc, rm_s hs⟩ (fun H1 locs1 Z1 ho => ?_)
  exact lb_tail X Z1 h0 (fun hk => by obtain ⟨f, g1, g2⟩ := hout hk; exact ⟨f, by rw [ho]; exact g1, g2⟩) hl hc hs dL_law_327 dL_law_329 dL_law_330 dL_law_333 dL_law_335 dL_law_340 dL_law_342 dL_law_345 dL_law_346 dL_law_347 dL_law_348 dL_law_350 dL_law_351 dL_law_352 dL_law_357 (by decide)
theorem gL_lose : GoodIn lw_tbl (va_wsS RL 82 yL_lose (wr_ws yL_lose cL_lose 4 [(0, 9, 12, 13)])) := wr_G (by decide +kernel) (by decide +kernel) (by decide +kernel) (by decide +kernel)
theorem lbc_lose (X : lb_X p l s m meth c b 5 xs ar D cL) (Y : lb_Y s ar D cL B o (rs_0 n) σ H locs) (hT : tg_R A (cs_h ar A (cs_0 n)) σ) (hn : n = 2 ∨ n = 3 ∨ n = 4 ∨ n = 5) (hl : lv_has ls 7 [(0, .ref b), (1, .ref (A (0, 0))), (2, .ref B), (3, .ref o), (4, .int 1)]) (hc : cells ≤ 500000) (hs : slots ≤ 7000000) : W p l e room_1 s m #[Value.ref b] below meth c H locs cells slots (lw_Z below #[Value.ref b] s) (F0 m 304 ls []) := by
  have X0 := X
  obtain ⟨⟨hx, hb, -⟩, -, -, hX, hbl, -, -, -, -, hlt⟩ := X0
  have hb1 := hT.1 (0, 0) _ rfl
  refine lv_aload_n hx hb dL_law_304 rfl (lv_at hl 1 rfl) ?_
  refine lv_aload_n hx hb dL_law_305 rfl (lv_at hl 0 rfl) ?_
  refine lv_iload hx hb dL_law_306 (lv_at hl 4 rfl) ?_
  refine lv_iconst (v := 1) hx hb dL_law_308 (by decide) ?_
  refine lv_iadd hx hb dL_law_309 ?_
  refine va_sld hx hb hX hbl (lb_nA hbl) Y.1.1 lb_i1 dL_law_310 ?_
  refine lv_aload_n hx hb dL_law_311 rfl (lv_at hl 3 rfl) ?_
  have h := sm_lose (ar := ar) (v := lb_p xs 1) (B := B) hT hn
  obtain ⟨hr, href⟩ := h
  refine lw_S (as := [.ref (A (0, 0)), .int (lb_p xs 1), .ref o]) (rest := []) (na := 3) (kc := 45) X Y (Lx_lose_x_ix hlt hr hb1) wr_blindX (fun _ _ q => q) gL_lose ⟨by decide, by decide, by decide⟩ ⟨Nat.le_of_ble_eq_true rfl, Nat.le_of_ble_eq_true rfl⟩ rfl hl.1 (Nat.le_of_ble_eq_true rfl) dL_law_312 ⟨rm_c (show cells + (σ.1 - σ.1 + 1) ≤ 590000 by omega), rm_s (show slots + (σ.2.1 - σ.2.1 + 6) ≤ 7150000 by omega)⟩ (fun H1 locs1 Z1 hK => ?_)
  refine lbr_lose X Z1 (fun z q => ?_) hl (by omega) (by omega)
  obtain ⟨s', r, h0, hR⟩ := href z q
  exact ⟨s', r, h0, fun hk => absurd hk (by decide), hR⟩
theorem lkr_repeat : Cond.methodLink RL 87 (tb_Y 117) ∈ tb_W := by decide +kernel
theorem lbr_repeat {k : Int32} (X : lb_X p l s m meth c b 5 xs ar D cL) (Z : lb_Z s ar D B o (rs_0 n) H locs) (hr : ∀ z q : Nat, ∃ (s' : rs_S) (r : Int32), s'.1 0 = k ∧ (k = 0 → ∃ f, H[o]? = some (arrV cL 1 f) ∧ f 0 = .long r.toInt64) ∧ mj_R (tb ar) 117 (mj_en (tb ar) 117 (.ref B :: [.int (lb_p xs 1)]) (rs_st ar B z q (rs_0 n))) (.inl (some (.int r)), rs_st ar B z q s')) (hl : lv_has ls 7 [(0, .ref b), (1, .ref a), (2, .ref B), (3, .ref o), (4, .int 1)]) (hc : cells ≤ 590000) (hs : slots ≤ 7150000) : W p l e room_1 s m #[Value.ref b] below meth c H locs cells slots (lw_Z below #[Value.ref b] s) (F0 m 371 ls [.int k]) := by
  have X0 := X
  obtain ⟨⟨hx, hb, -⟩, -, -, hX, hbl, -⟩ := X0
  refine lv_istore (lv' := (5, .int k) :: [(0, .ref b), (1, .ref a), (2, .ref B), (3, .ref o), (4, .int 1)]) hx hb dL_law_371 hl (by decide) rfl (fun ls hl => ?_)
  refine lv_aload_n hx hb dL_law_373 rfl (lv_at hl 3 rfl) ?_
  refine lv_aload_n hx hb dL_law_374 rfl (lv_at hl 1 rfl) ?_
  refine lv_iload hx hb dL_law_375 (lv_at hl 5 rfl) ?_
  refine lv_iconst (v := 1) hx hb dL_law_377 (by decide) ?_
  refine lv_iadd hx hb dL_law_378 ?_
  refine va_sld hx hb hX hbl (lb_nA hbl) Z.1 lb_i1 dL_law_379 ?_
  obtain ⟨s', r, h0, hout, hR⟩ := hr H.size 0
  refine lb_V (kr := 117) (As := [.int (lb_p xs 1)]) (rest := []) X Z hR (by decide) rfl rfl rfl (Nat.le_of_ble_eq_true rfl) (fun w hw => by simp only [List.mem_cons, List.not_mem_nil, or_false] at hw; subst hw; rfl) lkr_repeat ⟨Nat.le_of_ble_eq_true rfl, Nat.le_of_ble_eq_true rfl⟩ hl.1 (Nat.le_of_ble_eq_true rfl) dL_law_380 ⟨rm_c hc, rm_s hs⟩ (fun H1 locs1 Z1 ho => ?_)
  exact lb_tail X Z1 h0 (fun hk => by obtain ⟨f, g1, g2⟩ := hout hk; exact ⟨f, by rw [ho]; exact g1, g2⟩) hl hc hs dL_law_383 dL_law_385 dL_law_386 dL_law_389 dL_law_391 dL_law_396 dL_law_398 dL_law_401 dL_law_402 dL_law_403 dL_law_404 dL_law_406 dL_law_407 dL_law_408 dL_law_413 (by decide)
theorem gL_repeat : GoodIn lw_tbl (va_wsS RL 85 yL_repeat (wr_ws yL_repeat cL_repeat 4 [(0, 9, 12, 13), (0, 9, 15, 17)])) := wr_G (by decide +kernel) (by decide +kernel) (by decide +kernel) (by decide +kernel)
theorem lbc_repeat (X : lb_X p l s m meth c b 5 xs ar D cL) (Y : lb_Y s ar D cL B o (rs_0 n) σ H locs) (hT : tg_R A (cs_h ar A (cs_0 n)) σ) (hn : n = 2 ∨ n = 3 ∨ n = 4 ∨ n = 5) (hl : lv_has ls 7 [(0, .ref b), (1, .ref (A (0, 0))), (2, .ref B), (3, .ref o), (4, .int 1)]) (hc : cells ≤ 500000) (hs : slots ≤ 7000000) : W p l e room_1 s m #[Value.ref b] below meth c H locs cells slots (lw_Z below #[Value.ref b] s) (F0 m 360 ls []) := by
  have X0 := X
  obtain ⟨⟨hx, hb, -⟩, -, -, hX, hbl, -, -, -, -, hlt⟩ := X0
  have hb1 := hT.1 (0, 0) _ rfl
  refine lv_aload_n hx hb dL_law_360 rfl (lv_at hl 1 rfl) ?_
  refine lv_aload_n hx hb dL_law_361 rfl (lv_at hl 0 rfl) ?_
  refine lv_iload hx hb dL_law_362 (lv_at hl 4 rfl) ?_
  refine lv_iconst (v := 1) hx hb dL_law_364 (by decide) ?_
  refine lv_iadd hx hb dL_law_365 ?_
  refine va_sld hx hb hX hbl (lb_nA hbl) Y.1.1 lb_i1 dL_law_366 ?_
  refine lv_aload_n hx hb dL_law_367 rfl (lv_at hl 3 rfl) ?_
  have h := sm_repeat (ar := ar) (v := lb_p xs 1) (B := B) hT hn
  obtain ⟨hr, href⟩ := h
  refine lw_S (as := [.ref (A (0, 0)), .int (lb_p xs 1), .ref o]) (rest := []) (na := 3) (kc := 46) X Y (Lx_repeat_x_ix hlt hr hb1) wr_blindX (fun _ _ q => q) gL_repeat ⟨by decide, by decide, by decide⟩ ⟨Nat.le_of_ble_eq_true rfl, Nat.le_of_ble_eq_true rfl⟩ rfl hl.1 (Nat.le_of_ble_eq_true rfl) dL_law_368 ⟨rm_c (show cells + (σ.1 - σ.1 + 1) ≤ 590000 by omega), rm_s (show slots + (σ.2.1 - σ.2.1 + 6) ≤ 7150000 by omega)⟩ (fun H1 locs1 Z1 hK => ?_)
  refine lbr_repeat X Z1 (fun z q => ?_) hl (by omega) (by omega)
  obtain ⟨s', r, h0, hR⟩ := href z q
  exact ⟨s', r, h0, fun hk => absurd hk (by decide), hR⟩
theorem lkr_run : Cond.methodLink RL 94 (tb_Y 127) ∈ tb_W := by decide +kernel
theorem lbr_run {k : Int32} (X : lb_X p l s m meth c b 5 xs ar D cL) (Z : lb_Z s ar D B o (rs_0 n) H locs) (hr : ∀ z q : Nat, ∃ (s' : rs_S) (r : Int32), s'.1 0 = k ∧ (k = 0 → ∃ f, H[o]? = some (arrV cL 1 f) ∧ f 0 = .long r.toInt64) ∧ mj_R (tb ar) 127 (mj_en (tb ar) 127 (.ref B :: [.int (lb_p xs 1)]) (rs_st ar B z q (rs_0 n))) (.inl (some (.int r)), rs_st ar B z q s')) (hl : lv_has ls 7 [(0, .ref b), (1, .ref a), (2, .ref B), (3, .ref o), (4, .int 1)]) (hc : cells ≤ 590000) (hs : slots ≤ 7150000) : W p l e room_1 s m #[Value.ref b] below meth c H locs cells slots (lw_Z below #[Value.ref b] s) (F0 m 438 ls [.int k]) := by
  have X0 := X
  obtain ⟨⟨hx, hb, -⟩, -, -, hX, hbl, -⟩ := X0
  refine lv_istore (lv' := (5, .int k) :: [(0, .ref b), (1, .ref a), (2, .ref B), (3, .ref o), (4, .int 1)]) hx hb dL_law_438 hl (by decide) rfl (fun ls hl => ?_)
  refine lv_aload_n hx hb dL_law_440 rfl (lv_at hl 3 rfl) ?_
  refine lv_aload_n hx hb dL_law_441 rfl (lv_at hl 1 rfl) ?_
  refine lv_iload hx hb dL_law_442 (lv_at hl 5 rfl) ?_
  refine lv_iconst (v := 1) hx hb dL_law_444 (by decide) ?_
  refine lv_iadd hx hb dL_law_445 ?_
  refine va_sld hx hb hX hbl (lb_nA hbl) Z.1 lb_i1 dL_law_446 ?_
  obtain ⟨s', r, h0, hout, hR⟩ := hr H.size 0
  refine lb_V (kr := 127) (As := [.int (lb_p xs 1)]) (rest := []) X Z hR (by decide) rfl rfl rfl (Nat.le_of_ble_eq_true rfl) (fun w hw => by simp only [List.mem_cons, List.not_mem_nil, or_false] at hw; subst hw; rfl) lkr_run ⟨Nat.le_of_ble_eq_true rfl, Nat.le_of_ble_eq_true rfl⟩ hl.1 (Nat.le_of_ble_eq_true rfl) dL_law_447 ⟨rm_c hc, rm_s hs⟩ (fun H1 locs1 Z1 ho => ?_)
  exact lb_tail X Z1 h0 (fun hk => by obtain ⟨f, g1, g2⟩ := hout hk; exact ⟨f, by rw [ho]; exact g1, g2⟩) hl hc hs dL_law_450 dL_law_452 dL_law_453 dL_law_456 dL_law_458 dL_law_463 dL_law_465 dL_law_468 dL_law_469 dL_law_470 dL_law_471 dL_law_473 dL_law_474 dL_law_475 dL_law_480 (by decide)
theorem gL_run : GoodIn lw_tbl (va_wsS RL 92 yL_run (wr_ws yL_run cL_run 4 [(0, 9, 12, 15)])) := wr_G (by decide +kernel) (by decide +kernel) (by decide +kernel) (by decide +kernel)
theorem lbc_run (X : lb_X p l s m meth c b 5 xs ar D cL) (Y : lb_Y s ar D cL B o (rs_0 n) σ H locs) (hT : tg_R A (cs_h ar A (cs_0 n)) σ) (hn : n = 2 ∨ n = 3 ∨ n = 4 ∨ n = 5) (hl : lv_has ls 7 [(0, .ref b), (1, .ref (A (0, 0))), (2, .ref B), (3, .ref o), (4, .int 1)]) (hc : cells ≤ 500000) (hs : slots ≤ 7000000) : W p l e room_1 s m #[Value.ref b] below meth c H locs cells slots (lw_Z below #[Value.ref b] s) (F0 m 427 ls []) := by
  have X0 := X
  obtain ⟨⟨hx, hb, -⟩, -, -, hX, hbl, -, -, -, -, hlt⟩ := X0
  have hb1 := hT.1 (0, 0) _ rfl
  refine lv_aload_n hx hb dL_law_427 rfl (lv_at hl 1 rfl) ?_
  refine lv_aload_n hx hb dL_law_428 rfl (lv_at hl 0 rfl) ?_
  refine lv_iload hx hb dL_law_429 (lv_at hl 4 rfl) ?_
  refine lv_iconst (v := 1) hx hb dL_law_431 (by decide) ?_
  refine lv_iadd hx hb dL_law_432 ?_
  refine va_sld hx hb hX hbl (lb_nA hbl) Y.1.1 lb_i1 dL_law_433 ?_
  refine lv_aload_n hx hb dL_law_434 rfl (lv_at hl 3 rfl) ?_
  rcases sm_run (ar := ar) (v := lb_p xs 1) (B := B) hT hn with h | h
  · obtain ⟨v, τ, hr, hz, hq, href⟩ := h
    refine lw_S (as := [.ref (A (0, 0)), .int (lb_p xs 1), .ref o]) (rest := []) (na := 3) (kc := 48) X Y (Lr_run hr hb1 (lb_no Y)) wr_blind (fun _ _ q => q.1) gL_run ⟨by decide, by decide, by decide⟩ ⟨Nat.le_of_ble_eq_true rfl, Nat.le_of_ble_eq_true rfl⟩ rfl hl.1 (Nat.le_of_ble_eq_true rfl) dL_law_435 ⟨rm_c (show cells + (τ.1 - σ.1) ≤ 590000 by omega), rm_s (show slots + (τ.2.1 - σ.2.1) ≤ 7150000 by omega)⟩ (fun H1 locs1 Z1 hK => ?_)
    refine lbr_run X Z1 (fun z q => ?_) hl (by omega) (by omega)
    obtain ⟨s', h0, hR⟩ := href z q
    exact ⟨s', v, h0, fun _ => hK, hR⟩
  · obtain ⟨hr, href⟩ := h
    refine lw_S (as := [.ref (A (0, 0)), .int (lb_p xs 1), .ref o]) (rest := []) (na := 3) (kc := 48) X Y (Lx_run_x_ar hlt hr hb1) wr_blindX (fun _ _ q => q) gL_run ⟨by decide, by decide, by decide⟩ ⟨Nat.le_of_ble_eq_true rfl, Nat.le_of_ble_eq_true rfl⟩ rfl hl.1 (Nat.le_of_ble_eq_true rfl) dL_law_435 ⟨rm_c (show cells + (σ.1 - σ.1 + 1) ≤ 590000 by omega), rm_s (show slots + (σ.2.1 - σ.2.1 + 6) ≤ 7150000 by omega)⟩ (fun H1 locs1 Z1 hK => ?_)
    refine lbr_run X Z1 (fun z q => ?_) hl (by omega) (by omega)
    obtain ⟨s', r, h0, hR⟩ := href z q
    exact ⟨s', r, h0, fun hk => absurd hk (by decide), hR⟩
theorem lkr_crash : Cond.methodLink RL 98 (tb_Y 128) ∈ tb_W := by decide +kernel
theorem lbr_crash {k : Int32} (X : lb_X p l s m meth c b 5 xs ar D cL) (Z : lb_Z s ar D B o (rs_0 n) H locs) (hr : ∀ z q : Nat, ∃ (s' : rs_S) (r : Int32), s'.1 0 = k ∧ (k = 0 → ∃ f, H[o]? = some (arrV cL 1 f) ∧ f 0 = .long r.toInt64) ∧ mj_R (tb ar) 128 (mj_en (tb ar) 128 (.ref B :: [.int (lb_p xs 1), .int (lb_z (lb_p xs 2))]) (rs_st ar B z q (rs_0 n))) (.inl (some (.int r)), rs_st ar B z q s')) (hl : lv_has ls 7 [(0, .ref b), (1, .ref a), (2, .ref B), (3, .ref o), (4, .int 1)]) (hc : cells ≤ 590000) (hs : slots ≤ 7150000) : W p l e room_1 s m #[Value.ref b] below meth c H locs cells slots (lw_Z below #[Value.ref b] s) (F0 m 508 ls [.int k]) := by
  have X0 := X
  obtain ⟨⟨hx, hb, -⟩, -, -, hX, hbl, -⟩ := X0
  refine lv_istore (lv' := (5, .int k) :: [(0, .ref b), (1, .ref a), (2, .ref B), (3, .ref o), (4, .int 1)]) hx hb dL_law_508 hl (by decide) rfl (fun ls hl => ?_)
  refine lv_aload_n hx hb dL_law_510 rfl (lv_at hl 3 rfl) ?_
  refine lv_aload_n hx hb dL_law_511 rfl (lv_at hl 1 rfl) ?_
  refine lv_iload hx hb dL_law_512 (lv_at hl 5 rfl) ?_
  refine lv_iconst (v := 1) hx hb dL_law_514 (by decide) ?_
  refine lv_iadd hx hb dL_law_515 ?_
  refine va_sld hx hb hX hbl (lb_nA hbl) Z.1 lb_i1 dL_law_516 ?_
  refine lv_aload_n hx hb dL_law_517 rfl (lv_at hl 1 rfl) ?_
  refine lv_iload hx hb dL_law_518 (lv_at hl 5 rfl) ?_
  refine lv_iconst (v := 2) hx hb dL_law_520 (by decide) ?_
  refine lv_iadd hx hb dL_law_521 ?_
  refine va_sld hx hb hX hbl (lb_nA hbl) Z.1 lb_i2 dL_law_522 ?_
  refine lb_bool hx hb dL_law_523 dL_law_526 dL_law_527 dL_law_530 ?_
  obtain ⟨s', r, h0, hout, hR⟩ := hr H.size 0
  refine lb_V (kr := 128) (As := [.int (lb_p xs 1), .int (lb_z (lb_p xs 2))]) (rest := []) X Z hR (by decide) rfl rfl rfl (Nat.le_of_ble_eq_true rfl) (fun w hw => by simp only [List.mem_cons, List.not_mem_nil, or_false] at hw; rcases hw with rfl | rfl <;> rfl) lkr_crash ⟨Nat.le_of_ble_eq_true rfl, Nat.le_of_ble_eq_true rfl⟩ hl.1 (Nat.le_of_ble_eq_true rfl) dL_law_531 ⟨rm_c hc, rm_s hs⟩ (fun H1 locs1 Z1 ho => ?_)
  exact lb_tail X Z1 h0 (fun hk => by obtain ⟨f, g1, g2⟩ := hout hk; exact ⟨f, by rw [ho]; exact g1, g2⟩) hl hc hs dL_law_534 dL_law_536 dL_law_537 dL_law_540 dL_law_542 dL_law_547 dL_law_549 dL_law_552 dL_law_553 dL_law_554 dL_law_555 dL_law_557 dL_law_558 dL_law_559 dL_law_564 (by decide)
theorem gL_crash : GoodIn lw_tbl (va_wsS RL 95 yL_crash (wr_ws yL_crash cL_crash 5 [(0, 10, 13, 13)])) := wr_G (by decide +kernel) (by decide +kernel) (by decide +kernel) (by decide +kernel)
theorem lbc_crash (X : lb_X p l s m meth c b 5 xs ar D cL) (Y : lb_Y s ar D cL B o (rs_0 n) σ H locs) (hT : tg_R A (cs_h ar A (cs_0 n)) σ) (hn : n = 2 ∨ n = 3 ∨ n = 4 ∨ n = 5) (hl : lv_has ls 7 [(0, .ref b), (1, .ref (A (0, 0))), (2, .ref B), (3, .ref o), (4, .int 1)]) (hc : cells ≤ 500000) (hs : slots ≤ 7000000) : W p l e room_1 s m #[Value.ref b] below meth c H locs cells slots (lw_Z below #[Value.ref b] s) (F0 m 483 ls []) := by
  have X0 := X
  obtain ⟨⟨hx, hb, -⟩, -, -, hX, hbl, -, -, -, -, hlt⟩ := X0
  have hb1 := hT.1 (0, 0) _ rfl
  refine lv_aload_n hx hb dL_law_483 rfl (lv_at hl 1 rfl) ?_
  refine lv_aload_n hx hb dL_law_484 rfl (lv_at hl 0 rfl) ?_
  refine lv_iload hx hb dL_law_485 (lv_at hl 4 rfl) ?_
  refine lv_iconst (v := 1) hx hb dL_law_487 (by decide) ?_
  refine lv_iadd hx hb dL_law_488 ?_
  refine va_sld hx hb hX hbl (lb_nA hbl) Y.1.1 lb_i1 dL_law_489 ?_
  refine lv_aload_n hx hb dL_law_490 rfl (lv_at hl 0 rfl) ?_
  refine lv_iload hx hb dL_law_491 (lv_at hl 4 rfl) ?_
  refine lv_iconst (v := 2) hx hb dL_law_493 (by decide) ?_
  refine lv_iadd hx hb dL_law_494 ?_
  refine va_sld hx hb hX hbl (lb_nA hbl) Y.1.1 lb_i2 dL_law_495 ?_
  refine lb_bool hx hb dL_law_496 dL_law_499 dL_law_500 dL_law_503 ?_
  refine lv_aload_n hx hb dL_law_504 rfl (lv_at hl 3 rfl) ?_
  rcases sm_crash (ar := ar) (v := lb_p xs 1) (b := lb_z (lb_p xs 2)) (B := B) lb_z_or hT hn with h | h
  · obtain ⟨v, τ, hr, hz, hq, href⟩ := h
    refine lw_S (as := [.ref (A (0, 0)), .int (lb_p xs 1), .int (lb_z (lb_p xs 2)), .ref o]) (rest := []) (na := 4) (kc := 49) X Y (Lr_crash hr hb1 (lb_no Y)) wr_blind (fun _ _ q => q.1) gL_crash ⟨by decide, by decide, by decide⟩ ⟨Nat.le_of_ble_eq_true rfl, Nat.le_of_ble_eq_true rfl⟩ rfl hl.1 (Nat.le_of_ble_eq_true rfl) dL_law_505 ⟨rm_c (show cells + (τ.1 - σ.1) ≤ 590000 by omega), rm_s (show slots + (τ.2.1 - σ.2.1) ≤ 7150000 by omega)⟩ (fun H1 locs1 Z1 hK => ?_)
    refine lbr_crash X Z1 (fun z q => ?_) hl (by omega) (by omega)
    obtain ⟨s', h0, hR⟩ := href z q
    exact ⟨s', v, h0, fun _ => hK, hR⟩
  · obtain ⟨hr, href⟩ := h
    refine lw_S (as := [.ref (A (0, 0)), .int (lb_p xs 1), .int (lb_z (lb_p xs 2)), .ref o]) (rest := []) (na := 4) (kc := 49) X Y (Lx_crash_x_ix hlt hr hb1) wr_blindX (fun _ _ q => q) gL_crash ⟨by decide, by decide, by decide⟩ ⟨Nat.le_of_ble_eq_true rfl, Nat.le_of_ble_eq_true rfl⟩ rfl hl.1 (Nat.le_of_ble_eq_true rfl) dL_law_505 ⟨rm_c (show cells + (σ.1 - σ.1 + 1) ≤ 590000 by omega), rm_s (show slots + (σ.2.1 - σ.2.1 + 6) ≤ 7150000 by omega)⟩ (fun H1 locs1 Z1 hK => ?_)
    refine lbr_crash X Z1 (fun z q => ?_) hl (by omega) (by omega)
    obtain ⟨s', r, h0, hR⟩ := href z q
    exact ⟨s', r, h0, fun hk => absurd hk (by decide), hR⟩
theorem lkr_message : Cond.methodLink RL 105 (tb_Y 130) ∈ tb_W := by decide +kernel
theorem lbr_message {k : Int32} (X : lb_X p l s m meth c b 5 xs ar D cL) (Z : lb_Z s ar D B o (rs_0 n) H locs) (hr : ∀ z q : Nat, ∃ (s' : rs_S) (r : Int32), s'.1 0 = k ∧ (k = 0 → ∃ f, H[o]? = some (arrV cL 1 f) ∧ f 0 = .long r.toInt64) ∧ mj_R (tb ar) 130 (mj_en (tb ar) 130 (.ref B :: [.int (lb_p xs 1), .int (lb_p xs 2)]) (rs_st ar B z q (rs_0 n))) (.inl (some (.int r)), rs_st ar B z q s')) (hl : lv_has ls 7 [(0, .ref b), (1, .ref a), (2, .ref B), (3, .ref o), (4, .int 1)]) (hc : cells ≤ 590000) (hs : slots ≤ 7150000) : W p l e room_1 s m #[Value.ref b] below meth c H locs cells slots (lw_Z below #[Value.ref b] s) (F0 m 597 ls [.int k]) := by
  have X0 := X
  obtain ⟨⟨hx, hb, -⟩, -, -, hX, hbl, -⟩ := X0
  refine lv_istore (lv' := (5, .int k) :: [(0, .ref b), (1, .ref a), (2, .ref B), (3, .ref o), (4, .int 1)]) hx hb dL_law_597 hl (by decide) rfl (fun ls hl => ?_)
  refine lv_aload_n hx hb dL_law_599 rfl (lv_at hl 3 rfl) ?_
  refine lv_aload_n hx hb dL_law_600 rfl (lv_at hl 1 rfl) ?_
  refine lv_iload hx hb dL_law_601 (lv_at hl 5 rfl) ?_
  refine lv_iconst (v := 1) hx hb dL_law_603 (by decide) ?_
  refine lv_iadd hx hb dL_law_604 ?_
  refine va_sld hx hb hX hbl (lb_nA hbl) Z.1 lb_i1 dL_law_605 ?_
  refine lv_aload_n hx hb dL_law_606 rfl (lv_at hl 1 rfl) ?_
  refine lv_iload hx hb dL_law_607 (lv_at hl 5 rfl) ?_
  refine lv_iconst (v := 2) hx hb dL_law_609 (by decide) ?_
  refine lv_iadd hx hb dL_law_610 ?_
  refine va_sld hx hb hX hbl (lb_nA hbl) Z.1 lb_i2 dL_law_611 ?_
  obtain ⟨s', r, h0, hout, hR⟩ := hr H.size 0
  refine lb_V (kr := 130) (As := [.int (lb_p xs 1), .int (lb_p xs 2)]) (rest := []) X Z hR (by decide) rfl rfl rfl (Nat.le_of_ble_eq_true rfl) (fun w hw => by simp only [List.mem_cons, List.not_mem_nil, or_false] at hw; rcases hw with rfl | rfl <;> rfl) lkr_message ⟨Nat.le_of_ble_eq_true rfl, Nat.le_of_ble_eq_true rfl⟩ hl.1 (Nat.le_of_ble_eq_true rfl) dL_law_612 ⟨rm_c hc, rm_s hs⟩ (fun H1 locs1 Z1 ho => ?_)
  exact lb_tail X Z1 h0 (fun hk => by obtain ⟨f, g1, g2⟩ := hout hk; exact ⟨f, by rw [ho]; exact g1, g2⟩) hl hc hs dL_law_615 dL_law_617 dL_law_618 dL_law_621 dL_law_623 dL_law_628 dL_law_630 dL_law_633 dL_law_634 dL_law_635 dL_law_636 dL_law_638 dL_law_639 dL_law_640 dL_law_645 (by decide)
theorem gL_message : GoodIn lw_tbl (va_wsS RL 103 yL_message (wr_ws yL_message cL_message 5 [(0, 10, 13, 13)])) := wr_G (by decide +kernel) (by decide +kernel) (by decide +kernel) (by decide +kernel)
theorem lbc_message (X : lb_X p l s m meth c b 5 xs ar D cL) (Y : lb_Y s ar D cL B o (rs_0 n) σ H locs) (hT : tg_R A (cs_h ar A (cs_0 n)) σ) (hn : n = 2 ∨ n = 3 ∨ n = 4 ∨ n = 5) (hl : lv_has ls 7 [(0, .ref b), (1, .ref (A (0, 0))), (2, .ref B), (3, .ref o), (4, .int 1)]) (hc : cells ≤ 500000) (hs : slots ≤ 7000000) : W p l e room_1 s m #[Value.ref b] below meth c H locs cells slots (lw_Z below #[Value.ref b] s) (F0 m 580 ls []) := by
  have X0 := X
  obtain ⟨⟨hx, hb, -⟩, -, -, hX, hbl, -, -, -, -, hlt⟩ := X0
  have hb1 := hT.1 (0, 0) _ rfl
  refine lv_aload_n hx hb dL_law_580 rfl (lv_at hl 1 rfl) ?_
  refine lv_aload_n hx hb dL_law_581 rfl (lv_at hl 0 rfl) ?_
  refine lv_iload hx hb dL_law_582 (lv_at hl 4 rfl) ?_
  refine lv_iconst (v := 1) hx hb dL_law_584 (by decide) ?_
  refine lv_iadd hx hb dL_law_585 ?_
  refine va_sld hx hb hX hbl (lb_nA hbl) Y.1.1 lb_i1 dL_law_586 ?_
  refine lv_aload_n hx hb dL_law_587 rfl (lv_at hl 0 rfl) ?_
  refine lv_iload hx hb dL_law_588 (lv_at hl 4 rfl) ?_
  refine lv_iconst (v := 2) hx hb dL_law_590 (by decide) ?_
  refine lv_iadd hx hb dL_law_591 ?_
  refine va_sld hx hb hX hbl (lb_nA hbl) Y.1.1 lb_i2 dL_law_592 ?_
  refine lv_aload_n hx hb dL_law_593 rfl (lv_at hl 3 rfl) ?_
  have h := sm_message (ar := ar) (v := lb_p xs 1) (w := lb_p xs 2) (B := B) hT hn
  obtain ⟨hr, href⟩ := h
  refine lw_S (as := [.ref (A (0, 0)), .int (lb_p xs 1), .int (lb_p xs 2), .ref o]) (rest := []) (na := 4) (kc := 51) X Y (Lx_message_x_ix hlt hr hb1) wr_blindX (fun _ _ q => q) gL_message ⟨by decide, by decide, by decide⟩ ⟨Nat.le_of_ble_eq_true rfl, Nat.le_of_ble_eq_true rfl⟩ rfl hl.1 (Nat.le_of_ble_eq_true rfl) dL_law_594 ⟨rm_c (show cells + (σ.1 - σ.1 + 1) ≤ 590000 by omega), rm_s (show slots + (σ.2.1 - σ.2.1 + 6) ≤ 7150000 by omega)⟩ (fun H1 locs1 Z1 hK => ?_)
  refine lbr_message X Z1 (fun z q => ?_) hl (by omega) (by omega)
  obtain ⟨s', r, h0, hR⟩ := href z q
  exact ⟨s', r, h0, fun hk => absurd hk (by decide), hR⟩
theorem lkr_decided : Cond.methodLink RL 108 (tb_Y 131) ∈ tb_W := by decide +kernel
theorem lbr_decided {k : Int32} (X : lb_X p l s m meth c b 5 xs ar D cL) (Z : lb_Z s ar D B o (rs_0 n) H locs) (hr : ∀ z q : Nat, ∃ (s' : rs_S) (r : Int32), s'.1 0 = k ∧ (k = 0 → ∃ f, H[o]? = some (arrV cL 1 f) ∧ f 0 = .long r.toInt64) ∧ mj_R (tb ar) 131 (mj_en (tb ar) 131 (.ref B :: [.int (lb_p xs 1), .int (lb_p xs 2)]) (rs_st ar B z q (rs_0 n))) (.inl (some (.int r)), rs_st ar B z q s')) (hl : lv_has ls 7 [(0, .ref b), (1, .ref a), (2, .ref B), (3, .ref o), (4, .int 1)]) (hc : cells ≤ 590000) (hs : slots ≤ 7150000) : W p l e room_1 s m #[Value.ref b] below meth c H locs cells slots (lw_Z below #[Value.ref b] s) (F0 m 665 ls [.int k]) := by
  have X0 := X
  obtain ⟨⟨hx, hb, -⟩, -, -, hX, hbl, -⟩ := X0
  refine lv_istore (lv' := (5, .int k) :: [(0, .ref b), (1, .ref a), (2, .ref B), (3, .ref o), (4, .int 1)]) hx hb dL_law_665 hl (by decide) rfl (fun ls hl => ?_)
  refine lv_aload_n hx hb dL_law_667 rfl (lv_at hl 3 rfl) ?_
  refine lv_aload_n hx hb dL_law_668 rfl (lv_at hl 1 rfl) ?_
  refine lv_iload hx hb dL_law_669 (lv_at hl 5 rfl) ?_
  refine lv_iconst (v := 1) hx hb dL_law_671 (by decide) ?_
  refine lv_iadd hx hb dL_law_672 ?_
  refine va_sld hx hb hX hbl (lb_nA hbl) Z.1 lb_i1 dL_law_673 ?_
  refine lv_aload_n hx hb dL_law_674 rfl (lv_at hl 1 rfl) ?_
  refine lv_iload hx hb dL_law_675 (lv_at hl 5 rfl) ?_
  refine lv_iconst (v := 2) hx hb dL_law_677 (by decide) ?_
  refine lv_iadd hx hb dL_law_678 ?_
  refine va_sld hx hb hX hbl (lb_nA hbl) Z.1 lb_i2 dL_law_679 ?_
  obtain ⟨s', r, h0, hout, hR⟩ := hr H.size 0
  refine lb_V (kr := 131) (As := [.int (lb_p xs 1), .int (lb_p xs 2)]) (rest := []) X Z hR (by decide) rfl rfl rfl (Nat.le_of_ble_eq_true rfl) (fun w hw => by simp only [List.mem_cons, List.not_mem_nil, or_false] at hw; rcases hw with rfl | rfl <;> rfl) lkr_decided ⟨Nat.le_of_ble_eq_true rfl, Nat.le_of_ble_eq_true rfl⟩ hl.1 (Nat.le_of_ble_eq_true rfl) dL_law_680 ⟨rm_c hc, rm_s hs⟩ (fun H1 locs1 Z1 ho => ?_)
  exact lb_tail X Z1 h0 (fun hk => by obtain ⟨f, g1, g2⟩ := hout hk; exact ⟨f, by rw [ho]; exact g1, g2⟩) hl hc hs dL_law_683 dL_law_685 dL_law_686 dL_law_689 dL_law_691 dL_law_696 dL_law_698 dL_law_701 dL_law_702 dL_law_703 dL_law_704 dL_law_706 dL_law_707 dL_law_708 dL_law_713 (by decide)
theorem gL_decided : GoodIn lw_tbl (va_wsS RL 106 yL_decided (wr_ws yL_decided cL_decided 5 [(0, 10, 13, 13)])) := wr_G (by decide +kernel) (by decide +kernel) (by decide +kernel) (by decide +kernel)
theorem lbc_decided (X : lb_X p l s m meth c b 5 xs ar D cL) (Y : lb_Y s ar D cL B o (rs_0 n) σ H locs) (hT : tg_R A (cs_h ar A (cs_0 n)) σ) (hn : n = 2 ∨ n = 3 ∨ n = 4 ∨ n = 5) (hl : lv_has ls 7 [(0, .ref b), (1, .ref (A (0, 0))), (2, .ref B), (3, .ref o), (4, .int 1)]) (hc : cells ≤ 500000) (hs : slots ≤ 7000000) : W p l e room_1 s m #[Value.ref b] below meth c H locs cells slots (lw_Z below #[Value.ref b] s) (F0 m 648 ls []) := by
  have X0 := X
  obtain ⟨⟨hx, hb, -⟩, -, -, hX, hbl, -, -, -, -, hlt⟩ := X0
  have hb1 := hT.1 (0, 0) _ rfl
  refine lv_aload_n hx hb dL_law_648 rfl (lv_at hl 1 rfl) ?_
  refine lv_aload_n hx hb dL_law_649 rfl (lv_at hl 0 rfl) ?_
  refine lv_iload hx hb dL_law_650 (lv_at hl 4 rfl) ?_
  refine lv_iconst (v := 1) hx hb dL_law_652 (by decide) ?_
  refine lv_iadd hx hb dL_law_653 ?_
  refine va_sld hx hb hX hbl (lb_nA hbl) Y.1.1 lb_i1 dL_law_654 ?_
  refine lv_aload_n hx hb dL_law_655 rfl (lv_at hl 0 rfl) ?_
  refine lv_iload hx hb dL_law_656 (lv_at hl 4 rfl) ?_
  refine lv_iconst (v := 2) hx hb dL_law_658 (by decide) ?_
  refine lv_iadd hx hb dL_law_659 ?_
  refine va_sld hx hb hX hbl (lb_nA hbl) Y.1.1 lb_i2 dL_law_660 ?_
  refine lv_aload_n hx hb dL_law_661 rfl (lv_at hl 3 rfl) ?_
  have h := sm_decided (ar := ar) (v := lb_p xs 1) (w := lb_p xs 2) (B := B) hT hn
  obtain ⟨hr, href⟩ := h
  refine lw_S (as := [.ref (A (0, 0)), .int (lb_p xs 1), .int (lb_p xs 2), .ref o]) (rest := []) (na := 4) (kc := 52) X Y (Lx_decided_x_ix hlt hr hb1) wr_blindX (fun _ _ q => q) gL_decided ⟨by decide, by decide, by decide⟩ ⟨Nat.le_of_ble_eq_true rfl, Nat.le_of_ble_eq_true rfl⟩ rfl hl.1 (Nat.le_of_ble_eq_true rfl) dL_law_662 ⟨rm_c (show cells + (σ.1 - σ.1 + 1) ≤ 590000 by omega), rm_s (show slots + (σ.2.1 - σ.2.1 + 6) ≤ 7150000 by omega)⟩ (fun H1 locs1 Z1 hK => ?_)
  refine lbr_decided X Z1 (fun z q => ?_) hl (by omega) (by omega)
  obtain ⟨s', r, h0, hR⟩ := href z q
  exact ⟨s', r, h0, fun hk => absurd hk (by decide), hR⟩
theorem lkr_about : Cond.methodLink RL 111 (tb_Y 132) ∈ tb_W := by decide +kernel
theorem lbr_about {k : Int32} (X : lb_X p l s m meth c b 5 xs ar D cL) (Z : lb_Z s ar D B o (rs_0 n) H locs) (hr : ∀ z q : Nat, ∃ (s' : rs_S) (r : Int32), s'.1 0 = k ∧ (k = 0 → ∃ f, H[o]? = some (arrV cL 1 f) ∧ f 0 = .long r.toInt64) ∧ mj_R (tb ar) 132 (mj_en (tb ar) 132 (.ref B :: [.int (lb_p xs 1), .int (lb_p xs 2)]) (rs_st ar B z q (rs_0 n))) (.inl (some (.int r)), rs_st ar B z q s')) (hl : lv_has ls 7 [(0, .ref b), (1, .ref a), (2, .ref B), (3, .ref o), (4, .int 1)]) (hc : cells ≤ 590000) (hs : slots ≤ 7150000) : W p l e room_1 s m #[Value.ref b] below meth c H locs cells slots (lw_Z below #[Value.ref b] s) (F0 m 733 ls [.int k]) := by
  have X0 := X
  obtain ⟨⟨hx, hb, -⟩, -, -, hX, hbl, -⟩ := X0
  refine lv_istore (lv' := (5, .int k) :: [(0, .ref b), (1, .ref a), (2, .ref B), (3, .ref o), (4, .int 1)]) hx hb dL_law_733 hl (by decide) rfl (fun ls hl => ?_)
  refine lv_aload_n hx hb dL_law_735 rfl (lv_at hl 3 rfl) ?_
  refine lv_aload_n hx hb dL_law_736 rfl (lv_at hl 1 rfl) ?_
  refine lv_iload hx hb dL_law_737 (lv_at hl 5 rfl) ?_
  refine lv_iconst (v := 1) hx hb dL_law_739 (by decide) ?_
  refine lv_iadd hx hb dL_law_740 ?_
  refine va_sld hx hb hX hbl (lb_nA hbl) Z.1 lb_i1 dL_law_741 ?_
  refine lv_aload_n hx hb dL_law_742 rfl (lv_at hl 1 rfl) ?_
  refine lv_iload hx hb dL_law_743 (lv_at hl 5 rfl) ?_
  refine lv_iconst (v := 2) hx hb dL_law_745 (by decide) ?_
  refine lv_iadd hx hb dL_law_746 ?_
  refine va_sld hx hb hX hbl (lb_nA hbl) Z.1 lb_i2 dL_law_747 ?_
  obtain ⟨s', r, h0, hout, hR⟩ := hr H.size 0
  refine lb_V (kr := 132) (As := [.int (lb_p xs 1), .int (lb_p xs 2)]) (rest := []) X Z hR (by decide) rfl rfl rfl (Nat.le_of_ble_eq_true rfl) (fun w hw => by simp only [List.mem_cons, List.not_mem_nil, or_false] at hw; rcases hw with rfl | rfl <;> rfl) lkr_about ⟨Nat.le_of_ble_eq_true rfl, Nat.le_of_ble_eq_true rfl⟩ hl.1 (Nat.le_of_ble_eq_true rfl) dL_law_748 ⟨rm_c hc, rm_s hs⟩ (fun H1 locs1 Z1 ho => ?_)
  exact lb_tail X Z1 h0 (fun hk => by obtain ⟨f, g1, g2⟩ := hout hk; exact ⟨f, by rw [ho]; exact g1, g2⟩) hl hc hs dL_law_751 dL_law_753 dL_law_754 dL_law_757 dL_law_759 dL_law_764 dL_law_766 dL_law_769 dL_law_770 dL_law_771 dL_law_772 dL_law_774 dL_law_775 dL_law_776 dL_law_781 (by decide)
theorem gL_about : GoodIn lw_tbl (va_wsS RL 109 yL_about (wr_ws yL_about cL_about 5 [(0, 10, 13, 13)])) := wr_G (by decide +kernel) (by decide +kernel) (by decide +kernel) (by decide +kernel)
theorem lbc_about (X : lb_X p l s m meth c b 5 xs ar D cL) (Y : lb_Y s ar D cL B o (rs_0 n) σ H locs) (hT : tg_R A (cs_h ar A (cs_0 n)) σ) (hn : n = 2 ∨ n = 3 ∨ n = 4 ∨ n = 5) (hl : lv_has ls 7 [(0, .ref b), (1, .ref (A (0, 0))), (2, .ref B), (3, .ref o), (4, .int 1)]) (hc : cells ≤ 500000) (hs : slots ≤ 7000000) : W p l e room_1 s m #[Value.ref b] below meth c H locs cells slots (lw_Z below #[Value.ref b] s) (F0 m 716 ls []) := by
  have X0 := X
  obtain ⟨⟨hx, hb, -⟩, -, -, hX, hbl, -, -, -, -, hlt⟩ := X0
  have hb1 := hT.1 (0, 0) _ rfl
  refine lv_aload_n hx hb dL_law_716 rfl (lv_at hl 1 rfl) ?_
  refine lv_aload_n hx hb dL_law_717 rfl (lv_at hl 0 rfl) ?_
  refine lv_iload hx hb dL_law_718 (lv_at hl 4 rfl) ?_
  refine lv_iconst (v := 1) hx hb dL_law_720 (by decide) ?_
  refine lv_iadd hx hb dL_law_721 ?_
  refine va_sld hx hb hX hbl (lb_nA hbl) Y.1.1 lb_i1 dL_law_722 ?_
  refine lv_aload_n hx hb dL_law_723 rfl (lv_at hl 0 rfl) ?_
  refine lv_iload hx hb dL_law_724 (lv_at hl 4 rfl) ?_
  refine lv_iconst (v := 2) hx hb dL_law_726 (by decide) ?_
  refine lv_iadd hx hb dL_law_727 ?_
  refine va_sld hx hb hX hbl (lb_nA hbl) Y.1.1 lb_i2 dL_law_728 ?_
  refine lv_aload_n hx hb dL_law_729 rfl (lv_at hl 3 rfl) ?_
  rcases sm_about (ar := ar) (v := lb_p xs 1) (w := lb_p xs 2) (B := B) hT hn with h | h
  · obtain ⟨v, τ, hr, hz, hq, href⟩ := h
    refine lw_S (as := [.ref (A (0, 0)), .int (lb_p xs 1), .int (lb_p xs 2), .ref o]) (rest := []) (na := 4) (kc := 53) X Y (Lr_about hr hb1 (lb_no Y)) wr_blind (fun _ _ q => q.1) gL_about ⟨by decide, by decide, by decide⟩ ⟨Nat.le_of_ble_eq_true rfl, Nat.le_of_ble_eq_true rfl⟩ rfl hl.1 (Nat.le_of_ble_eq_true rfl) dL_law_730 ⟨rm_c (show cells + (τ.1 - σ.1) ≤ 590000 by omega), rm_s (show slots + (τ.2.1 - σ.2.1) ≤ 7150000 by omega)⟩ (fun H1 locs1 Z1 hK => ?_)
    refine lbr_about X Z1 (fun z q => ?_) hl (by omega) (by omega)
    obtain ⟨s', h0, hR⟩ := href z q
    exact ⟨s', v, h0, fun _ => hK, hR⟩
  · obtain ⟨hr, href⟩ := h
    refine lw_S (as := [.ref (A (0, 0)), .int (lb_p xs 1), .int (lb_p xs 2), .ref o]) (rest := []) (na := 4) (kc := 53) X Y (Lx_about_x_ix hlt hr hb1) wr_blindX (fun _ _ q => q) gL_about ⟨by decide, by decide, by decide⟩ ⟨Nat.le_of_ble_eq_true rfl, Nat.le_of_ble_eq_true rfl⟩ rfl hl.1 (Nat.le_of_ble_eq_true rfl) dL_law_730 ⟨rm_c (show cells + (σ.1 - σ.1 + 1) ≤ 590000 by omega), rm_s (show slots + (σ.2.1 - σ.2.1 + 6) ≤ 7150000 by omega)⟩ (fun H1 locs1 Z1 hK => ?_)
    refine lbr_about X Z1 (fun z q => ?_) hl (by omega) (by omega)
    obtain ⟨s', r, h0, hR⟩ := href z q
    exact ⟨s', r, h0, fun hk => absurd hk (by decide), hR⟩
theorem lkr_accepted : Cond.methodLink RL 115 (tb_Y 133) ∈ tb_W := by decide +kernel
theorem lbr_accepted {k : Int32} (X : lb_X p l s m meth c b 5 xs ar D cL) (Z : lb_Z s ar D B o (rs_0 n) H locs) (hr : ∀ z q : Nat, ∃ (s' : rs_S) (r : Int32), s'.1 0 = k ∧ (k = 0 → ∃ f, H[o]? = some (arrV cL 1 f) ∧ f 0 = .long r.toInt64) ∧ mj_R (tb ar) 133 (mj_en (tb ar) 133 (.ref B :: [.int (lb_p xs 1), .int (lb_p xs 2), .int (lb_p xs 3)]) (rs_st ar B z q (rs_0 n))) (.inl (some (.int r)), rs_st ar B z q s')) (hl : lv_has ls 7 [(0, .ref b), (1, .ref a), (2, .ref B), (3, .ref o), (4, .int 1)]) (hc : cells ≤ 590000) (hs : slots ≤ 7150000) : W p l e room_1 s m #[Value.ref b] below meth c H locs cells slots (lw_Z below #[Value.ref b] s) (F0 m 807 ls [.int k]) := by
  have X0 := X
  obtain ⟨⟨hx, hb, -⟩, -, -, hX, hbl, -⟩ := X0
  refine lv_istore (lv' := (5, .int k) :: [(0, .ref b), (1, .ref a), (2, .ref B), (3, .ref o), (4, .int 1)]) hx hb dL_law_807 hl (by decide) rfl (fun ls hl => ?_)
  refine lv_aload_n hx hb dL_law_809 rfl (lv_at hl 3 rfl) ?_
  refine lv_aload_n hx hb dL_law_810 rfl (lv_at hl 1 rfl) ?_
  refine lv_iload hx hb dL_law_811 (lv_at hl 5 rfl) ?_
  refine lv_iconst (v := 1) hx hb dL_law_813 (by decide) ?_
  refine lv_iadd hx hb dL_law_814 ?_
  refine va_sld hx hb hX hbl (lb_nA hbl) Z.1 lb_i1 dL_law_815 ?_
  refine lv_aload_n hx hb dL_law_816 rfl (lv_at hl 1 rfl) ?_
  refine lv_iload hx hb dL_law_817 (lv_at hl 5 rfl) ?_
  refine lv_iconst (v := 2) hx hb dL_law_819 (by decide) ?_
  refine lv_iadd hx hb dL_law_820 ?_
  refine va_sld hx hb hX hbl (lb_nA hbl) Z.1 lb_i2 dL_law_821 ?_
  refine lv_aload_n hx hb dL_law_822 rfl (lv_at hl 1 rfl) ?_
  refine lv_iload hx hb dL_law_823 (lv_at hl 5 rfl) ?_
  refine lv_iconst (v := 3) hx hb dL_law_825 (by decide) ?_
  refine lv_iadd hx hb dL_law_826 ?_
  refine va_sld hx hb hX hbl (lb_nA hbl) Z.1 lb_i3 dL_law_827 ?_
  obtain ⟨s', r, h0, hout, hR⟩ := hr H.size 0
  refine lb_V (kr := 133) (As := [.int (lb_p xs 1), .int (lb_p xs 2), .int (lb_p xs 3)]) (rest := []) X Z hR (by decide) rfl rfl rfl (Nat.le_of_ble_eq_true rfl) (fun w hw => by simp only [List.mem_cons, List.not_mem_nil, or_false] at hw; rcases hw with rfl | rfl | rfl <;> rfl) lkr_accepted ⟨Nat.le_of_ble_eq_true rfl, Nat.le_of_ble_eq_true rfl⟩ hl.1 (Nat.le_of_ble_eq_true rfl) dL_law_828 ⟨rm_c hc, rm_s hs⟩ (fun H1 locs1 Z1 ho => ?_)
  exact lb_tail X Z1 h0 (fun hk => by obtain ⟨f, g1, g2⟩ := hout hk; exact ⟨f, by rw [ho]; exact g1, g2⟩) hl hc hs dL_law_831 dL_law_833 dL_law_834 dL_law_837 dL_law_839 dL_law_844 dL_law_846 dL_law_849 dL_law_850 dL_law_851 dL_law_852 dL_law_854 dL_law_855 dL_law_856 dL_law_861 (by decide)
theorem gL_accepted : GoodIn lw_tbl (va_wsS RL 112 yL_accepted (wr_ws yL_accepted cL_accepted 6 [(0, 12, 15, 13)])) := wr_G (by decide +kernel) (by decide +kernel) (by decide +kernel) (by decide +kernel)
theorem lbc_accepted (X : lb_X p l s m meth c b 5 xs ar D cL) (Y : lb_Y s ar D cL B o (rs_0 n) σ H locs) (hT : tg_R A (cs_h ar A (cs_0 n)) σ) (hn : n = 2 ∨ n = 3 ∨ n = 4 ∨ n = 5) (hl : lv_has ls 7 [(0, .ref b), (1, .ref (A (0, 0))), (2, .ref B), (3, .ref o), (4, .int 1)]) (hc : cells ≤ 500000) (hs : slots ≤ 7000000) : W p l e room_1 s m #[Value.ref b] below meth c H locs cells slots (lw_Z below #[Value.ref b] s) (F0 m 784 ls []) := by
  have X0 := X
  obtain ⟨⟨hx, hb, -⟩, -, -, hX, hbl, -, -, -, -, hlt⟩ := X0
  have hb1 := hT.1 (0, 0) _ rfl
  refine lv_aload_n hx hb dL_law_784 rfl (lv_at hl 1 rfl) ?_
  refine lv_aload_n hx hb dL_law_785 rfl (lv_at hl 0 rfl) ?_
  refine lv_iload hx hb dL_law_786 (lv_at hl 4 rfl) ?_
  refine lv_iconst (v := 1) hx hb dL_law_788 (by decide) ?_
  refine lv_iadd hx hb dL_law_789 ?_
  refine va_sld hx hb hX hbl (lb_nA hbl) Y.1.1 lb_i1 dL_law_790 ?_
  refine lv_aload_n hx hb dL_law_791 rfl (lv_at hl 0 rfl) ?_
  refine lv_iload hx hb dL_law_792 (lv_at hl 4 rfl) ?_
  refine lv_iconst (v := 2) hx hb dL_law_794 (by decide) ?_
  refine lv_iadd hx hb dL_law_795 ?_
  refine va_sld hx hb hX hbl (lb_nA hbl) Y.1.1 lb_i2 dL_law_796 ?_
  refine lv_aload_n hx hb dL_law_797 rfl (lv_at hl 0 rfl) ?_
  refine lv_iload hx hb dL_law_798 (lv_at hl 4 rfl) ?_
  refine lv_iconst (v := 3) hx hb dL_law_800 (by decide) ?_
  refine lv_iadd hx hb dL_law_801 ?_
  refine va_sld hx hb hX hbl (lb_nA hbl) Y.1.1 lb_i3 dL_law_802 ?_
  refine lv_aload_n hx hb dL_law_803 rfl (lv_at hl 3 rfl) ?_
  rcases sm_accepted (ar := ar) (v := lb_p xs 1) (w := lb_p xs 2) (u := lb_p xs 3) (B := B) hT hn with h | h
  · obtain ⟨v, τ, hr, hz, hq, href⟩ := h
    refine lw_S (as := [.ref (A (0, 0)), .int (lb_p xs 1), .int (lb_p xs 2), .int (lb_p xs 3), .ref o]) (rest := []) (na := 5) (kc := 54) X Y (Lr_accepted hr hb1 (lb_no Y)) wr_blind (fun _ _ q => q.1) gL_accepted ⟨by decide, by decide, by decide⟩ ⟨Nat.le_of_ble_eq_true rfl, Nat.le_of_ble_eq_true rfl⟩ rfl hl.1 (Nat.le_of_ble_eq_true rfl) dL_law_804 ⟨rm_c (show cells + (τ.1 - σ.1) ≤ 590000 by omega), rm_s (show slots + (τ.2.1 - σ.2.1) ≤ 7150000 by omega)⟩ (fun H1 locs1 Z1 hK => ?_)
    refine lbr_accepted X Z1 (fun z q => ?_) hl (by omega) (by omega)
    obtain ⟨s', h0, hR⟩ := href z q
    exact ⟨s', v, h0, fun _ => hK, hR⟩
  · obtain ⟨hr, href⟩ := h
    refine lw_S (as := [.ref (A (0, 0)), .int (lb_p xs 1), .int (lb_p xs 2), .int (lb_p xs 3), .ref o]) (rest := []) (na := 5) (kc := 54) X Y (Lx_accepted_x_ix hlt hr hb1) wr_blindX (fun _ _ q => q) gL_accepted ⟨by decide, by decide, by decide⟩ ⟨Nat.le_of_ble_eq_true rfl, Nat.le_of_ble_eq_true rfl⟩ rfl hl.1 (Nat.le_of_ble_eq_true rfl) dL_law_804 ⟨rm_c (show cells + (σ.1 - σ.1 + 1) ≤ 590000 by omega), rm_s (show slots + (σ.2.1 - σ.2.1 + 6) ≤ 7150000 by omega)⟩ (fun H1 locs1 Z1 hK => ?_)
    refine lbr_accepted X Z1 (fun z q => ?_) hl (by omega) (by omega)
    obtain ⟨s', r, h0, hR⟩ := href z q
    exact ⟨s', r, h0, fun hk => absurd hk (by decide), hR⟩
theorem lkr_members : Cond.methodLink RL 118 (tb_Y 134) ∈ tb_W := by decide +kernel
theorem lbr_members {k : Int32} (X : lb_X p l s m meth c b 5 xs ar D cL) (Z : lb_Z s ar D B o (rs_0 n) H locs) (hr : ∀ z q : Nat, ∃ (s' : rs_S) (r : Int32), s'.1 0 = k ∧ (k = 0 → ∃ f, H[o]? = some (arrV cL 1 f) ∧ f 0 = .long r.toInt64) ∧ mj_R (tb ar) 134 (mj_en (tb ar) 134 (.ref B :: [.int (lb_p xs 1), .int (lb_p xs 2)]) (rs_st ar B z q (rs_0 n))) (.inl (some (.int r)), rs_st ar B z q s')) (hl : lv_has ls 7 [(0, .ref b), (1, .ref a), (2, .ref B), (3, .ref o), (4, .int 1)]) (hc : cells ≤ 590000) (hs : slots ≤ 7150000) : W p l e room_1 s m #[Value.ref b] below meth c H locs cells slots (lw_Z below #[Value.ref b] s) (F0 m 881 ls [.int k]) := by
  have X0 := X
  obtain ⟨⟨hx, hb, -⟩, -, -, hX, hbl, -⟩ := X0
  refine lv_istore (lv' := (5, .int k) :: [(0, .ref b), (1, .ref a), (2, .ref B), (3, .ref o), (4, .int 1)]) hx hb dL_law_881 hl (by decide) rfl (fun ls hl => ?_)
  refine lv_aload_n hx hb dL_law_883 rfl (lv_at hl 3 rfl) ?_
  refine lv_aload_n hx hb dL_law_884 rfl (lv_at hl 1 rfl) ?_
  refine lv_iload hx hb dL_law_885 (lv_at hl 5 rfl) ?_
  refine lv_iconst (v := 1) hx hb dL_law_887 (by decide) ?_
  refine lv_iadd hx hb dL_law_888 ?_
  refine va_sld hx hb hX hbl (lb_nA hbl) Z.1 lb_i1 dL_law_889 ?_
  refine lv_aload_n hx hb dL_law_890 rfl (lv_at hl 1 rfl) ?_
  refine lv_iload hx hb dL_law_891 (lv_at hl 5 rfl) ?_
  refine lv_iconst (v := 2) hx hb dL_law_893 (by decide) ?_
  refine lv_iadd hx hb dL_law_894 ?_
  refine va_sld hx hb hX hbl (lb_nA hbl) Z.1 lb_i2 dL_law_895 ?_
  obtain ⟨s', r, h0, hout, hR⟩ := hr H.size 0
  refine lb_V (kr := 134) (As := [.int (lb_p xs 1), .int (lb_p xs 2)]) (rest := []) X Z hR (by decide) rfl rfl rfl (Nat.le_of_ble_eq_true rfl) (fun w hw => by simp only [List.mem_cons, List.not_mem_nil, or_false] at hw; rcases hw with rfl | rfl <;> rfl) lkr_members ⟨Nat.le_of_ble_eq_true rfl, Nat.le_of_ble_eq_true rfl⟩ hl.1 (Nat.le_of_ble_eq_true rfl) dL_law_896 ⟨rm_c hc, rm_s hs⟩ (fun H1 locs1 Z1 ho => ?_)
  exact lb_tail X Z1 h0 (fun hk => by obtain ⟨f, g1, g2⟩ := hout hk; exact ⟨f, by rw [ho]; exact g1, g2⟩) hl hc hs dL_law_899 dL_law_901 dL_law_902 dL_law_905 dL_law_907 dL_law_912 dL_law_914 dL_law_917 dL_law_918 dL_law_919 dL_law_920 dL_law_922 dL_law_923 dL_law_924 dL_law_929 (by decide)
theorem gL_members : GoodIn lw_tbl (va_wsS RL 116 yL_members (wr_ws yL_members cL_members 5 [(0, 10, 13, 13)])) := wr_G (by decide +kernel) (by decide +kernel) (by decide +kernel) (by decide +kernel)
theorem lbc_members (X : lb_X p l s m meth c b 5 xs ar D cL) (Y : lb_Y s ar D cL B o (rs_0 n) σ H locs) (hT : tg_R A (cs_h ar A (cs_0 n)) σ) (hn : n = 2 ∨ n = 3 ∨ n = 4 ∨ n = 5) (hl : lv_has ls 7 [(0, .ref b), (1, .ref (A (0, 0))), (2, .ref B), (3, .ref o), (4, .int 1)]) (hc : cells ≤ 500000) (hs : slots ≤ 7000000) : W p l e room_1 s m #[Value.ref b] below meth c H locs cells slots (lw_Z below #[Value.ref b] s) (F0 m 864 ls []) := by
  have X0 := X
  obtain ⟨⟨hx, hb, -⟩, -, -, hX, hbl, -, -, -, -, hlt⟩ := X0
  have hb1 := hT.1 (0, 0) _ rfl
  refine lv_aload_n hx hb dL_law_864 rfl (lv_at hl 1 rfl) ?_
  refine lv_aload_n hx hb dL_law_865 rfl (lv_at hl 0 rfl) ?_
  refine lv_iload hx hb dL_law_866 (lv_at hl 4 rfl) ?_
  refine lv_iconst (v := 1) hx hb dL_law_868 (by decide) ?_
  refine lv_iadd hx hb dL_law_869 ?_
  refine va_sld hx hb hX hbl (lb_nA hbl) Y.1.1 lb_i1 dL_law_870 ?_
  refine lv_aload_n hx hb dL_law_871 rfl (lv_at hl 0 rfl) ?_
  refine lv_iload hx hb dL_law_872 (lv_at hl 4 rfl) ?_
  refine lv_iconst (v := 2) hx hb dL_law_874 (by decide) ?_
  refine lv_iadd hx hb dL_law_875 ?_
  refine va_sld hx hb hX hbl (lb_nA hbl) Y.1.1 lb_i2 dL_law_876 ?_
  refine lv_aload_n hx hb dL_law_877 rfl (lv_at hl 3 rfl) ?_
  rcases sm_members (ar := ar) (v := lb_p xs 1) (w := lb_p xs 2) (B := B) hT hn with h | h
  · obtain ⟨v, τ, hr, hz, hq, href⟩ := h
    refine lw_S (as := [.ref (A (0, 0)), .int (lb_p xs 1), .int (lb_p xs 2), .ref o]) (rest := []) (na := 4) (kc := 55) X Y (Lr_members hr hb1 (lb_no Y)) wr_blind (fun _ _ q => q.1) gL_members ⟨by decide, by decide, by decide⟩ ⟨Nat.le_of_ble_eq_true rfl, Nat.le_of_ble_eq_true rfl⟩ rfl hl.1 (Nat.le_of_ble_eq_true rfl) dL_law_878 ⟨rm_c (show cells + (τ.1 - σ.1) ≤ 590000 by omega), rm_s (show slots + (τ.2.1 - σ.2.1) ≤ 7150000 by omega)⟩ (fun H1 locs1 Z1 hK => ?_)
    refine lbr_members X Z1 (fun z q => ?_) hl (by omega) (by omega)
    obtain ⟨s', h0, hR⟩ := href z q
    exact ⟨s', v, h0, fun _ => hK, hR⟩
  · obtain ⟨hr, href⟩ := h
    refine lw_S (as := [.ref (A (0, 0)), .int (lb_p xs 1), .int (lb_p xs 2), .ref o]) (rest := []) (na := 4) (kc := 55) X Y (Lx_members_x_ix hlt hr hb1) wr_blindX (fun _ _ q => q) gL_members ⟨by decide, by decide, by decide⟩ ⟨Nat.le_of_ble_eq_true rfl, Nat.le_of_ble_eq_true rfl⟩ rfl hl.1 (Nat.le_of_ble_eq_true rfl) dL_law_878 ⟨rm_c (show cells + (σ.1 - σ.1 + 1) ≤ 590000 by omega), rm_s (show slots + (σ.2.1 - σ.2.1 + 6) ≤ 7150000 by omega)⟩ (fun H1 locs1 Z1 hK => ?_)
    refine lbr_members X Z1 (fun z q => ?_) hl (by omega) (by omega)
    obtain ⟨s', r, h0, hR⟩ := href z q
    exact ⟨s', r, h0, fun hk => absurd hk (by decide), hR⟩
theorem lk_tick : Cond.methodLink RL 88 (tb_Y 47) ∈ tb_W := by decide +kernel
theorem lkr_tick : Cond.methodLink RL 91 (tb_Y 126) ∈ tb_W := by decide +kernel
theorem lbc_tick (X : lb_X p l s m meth c b 5 xs ar D cL) (Y : lb_Y s ar D cL B o (rs_0 n) σ H locs) (hT : tg_R A (cs_h ar A (cs_0 n)) σ) (hn : n = 2 ∨ n = 3 ∨ n = 4 ∨ n = 5) (hl : lv_has ls 7 [(0, .ref b), (1, .ref (A (0, 0))), (2, .ref B), (3, .ref o), (4, .int 1)]) (hc : cells ≤ 500000) (hs : slots ≤ 7000000) : W p l e room_1 s m #[Value.ref b] below meth c H locs cells slots (lw_Z below #[Value.ref b] s) (F0 m 416 ls []) := by
  have X0 := X
  obtain ⟨⟨hx, hb, -⟩, -, -, hX, hbl, -, -, -, -, hlt⟩ := X0
  have hc' : cells ≤ 590000 := by omega
  have hs' : slots ≤ 7150000 := by omega
  have hb1 := hT.1 (0, 0) _ rfl
  refine lv_aload_n hx hb dL_law_416 rfl (lv_at hl 1 rfl) ?_
  refine lb_CV (kc := 47) (v := none) (rest := []) X Y (wp_R ((C_tick0 hT (c0_B (by omega) (by omega)) (fun _ _ => rfl)).mpr ⟨rfl, rfl⟩)) hb1 (by decide) rfl rfl (Nat.le_of_ble_eq_true rfl) lk_tick ⟨Nat.le_of_ble_eq_true rfl, Nat.le_of_ble_eq_true rfl⟩ hl.1 (Nat.le_of_ble_eq_true rfl) dL_law_417 ⟨rm_c hc', rm_s hs'⟩ (fun H1 locs1 Z1 => ?_)
  refine lv_aload_n hx hb dL_law_420 rfl (lv_at hl 2 rfl) ?_
  refine lb_V (kr := 126) (As := []) (v := none) (s' := rs_w (rs_0 n) 0 0) (rest := []) X Z1 (wp_R ((R_tick0 (m := n) rfl (by omega) rfl (fun _ _ => rfl)).mpr ⟨rfl, rfl⟩)) (by decide) rfl rfl rfl (Nat.le_of_ble_eq_true rfl) (fun w hw => by cases hw) lkr_tick ⟨Nat.le_of_ble_eq_true rfl, Nat.le_of_ble_eq_true rfl⟩ hl.1 (Nat.le_of_ble_eq_true rfl) dL_law_421 ⟨rm_c hc', rm_s hs'⟩ (fun H2 locs2 Z2 _ => ?_)
  have hfin : W p l e room_1 s m #[Value.ref b] below meth c H2 locs2 cells slots (lw_Z below #[Value.ref b] s) (F0 m 945 ls []) := lb_end X Z2.1 (lv_sub hl [0, 4] rfl) hc' hs'
  exact lv_goto (tgt := 945) hx hb dL_law_424 (by decide) hfin
theorem lk_way : Cond.methodLink RL 99 (tb_Y 50) ∈ tb_W := by decide +kernel
theorem lkr_way : Cond.methodLink RL 102 (tb_Y 129) ∈ tb_W := by decide +kernel
theorem lbc_way (X : lb_X p l s m meth c b 5 xs ar D cL) (Y : lb_Y s ar D cL B o (rs_0 n) σ H locs) (hT : tg_R A (cs_h ar A (cs_0 n)) σ) (hn : n = 2 ∨ n = 3 ∨ n = 4 ∨ n = 5) (hl : lv_has ls 7 [(0, .ref b), (1, .ref (A (0, 0))), (2, .ref B), (3, .ref o), (4, .int 1)]) (hc : cells ≤ 500000) (hs : slots ≤ 7000000) : W p l e room_1 s m #[Value.ref b] below meth c H locs cells slots (lw_Z below #[Value.ref b] s) (F0 m 567 ls []) := by
  have X0 := X
  obtain ⟨⟨hx, hb, -⟩, -, -, hX, hbl, -, -, -, -, hlt⟩ := X0
  have hc' : cells ≤ 590000 := by omega
  have hs' : slots ≤ 7150000 := by omega
  have hb1 := hT.1 (0, 0) _ rfl
  refine lv_aload_n hx hb dL_law_567 rfl (lv_at hl 1 rfl) ?_
  refine lb_CV (kc := 50) (v := some (.int 0)) (rest := []) X Y (wp_R ((C_way hT).mpr ⟨rfl, rfl⟩)) hb1 (by decide) rfl rfl (Nat.le_of_ble_eq_true rfl) lk_way ⟨Nat.le_of_ble_eq_true rfl, Nat.le_of_ble_eq_true rfl⟩ hl.1 (Nat.le_of_ble_eq_true rfl) dL_law_568 ⟨rm_c hc', rm_s hs'⟩ (fun H1 locs1 Z1 => ?_)
  refine lv_aload_n hx hb dL_law_571 rfl (lv_at hl 2 rfl) ?_
  refine lb_V (kr := 129) (As := []) (v := some (.int 0)) (s' := rs_w (rs_0 n) 0 0) (rest := [.int 0]) X Z1 (wp_R (R_way.mpr ⟨rfl, rfl⟩)) (by decide) rfl rfl rfl (Nat.le_of_ble_eq_true rfl) (fun w hw => by cases hw) lkr_way ⟨Nat.le_of_ble_eq_true rfl, Nat.le_of_ble_eq_true rfl⟩ hl.1 (Nat.le_of_ble_eq_true rfl) dL_law_572 ⟨rm_c hc', rm_s hs'⟩ (fun H2 locs2 Z2 _ => ?_)
  have hfin : W p l e room_1 s m #[Value.ref b] below meth c H2 locs2 cells slots (lw_Z below #[Value.ref b] s) (F0 m 945 ls []) := lb_end X Z2.1 (lv_sub hl [0, 4] rfl) hc' hs'
  exact lv_icmp_eq (tgt := 945) hx hb dL_law_575 (by decide) (fun _ => hfin) (fun h => absurd rfl h)
theorem lk_lost : Cond.methodLink RL 119 (tb_Y 56) ∈ tb_W := by decide +kernel
theorem lkr_lost : Cond.methodLink RL 122 (tb_Y 135) ∈ tb_W := by decide +kernel
theorem lbc_lost (X : lb_X p l s m meth c b 5 xs ar D cL) (Y : lb_Y s ar D cL B o (rs_0 n) σ H locs) (hT : tg_R A (cs_h ar A (cs_0 n)) σ) (hn : n = 2 ∨ n = 3 ∨ n = 4 ∨ n = 5) (hl : lv_has ls 7 [(0, .ref b), (1, .ref (A (0, 0))), (2, .ref B), (3, .ref o), (4, .int 1)]) (hc : cells ≤ 500000) (hs : slots ≤ 7000000) : W p l e room_1 s m #[Value.ref b] below meth c H locs cells slots (lw_Z below #[Value.ref b] s) (F0 m 932 ls []) := by
  have X0 := X
  obtain ⟨⟨hx, hb, -⟩, -, -, hX, hbl, -, -, -, -, hlt⟩ := X0
  have hc' : cells ≤ 590000 := by omega
  have hs' : slots ≤ 7150000 := by omega
  have hb1 := hT.1 (0, 0) _ rfl
  refine lv_aload_n hx hb dL_law_932 rfl (lv_at hl 1 rfl) ?_
  refine lb_CV (kc := 56) (v := some (.int 0)) (rest := []) X Y (wp_R ((C_lost hT).mpr ⟨rfl, rfl⟩)) hb1 (by decide) rfl rfl (Nat.le_of_ble_eq_true rfl) lk_lost ⟨Nat.le_of_ble_eq_true rfl, Nat.le_of_ble_eq_true rfl⟩ hl.1 (Nat.le_of_ble_eq_true rfl) dL_law_933 ⟨rm_c hc', rm_s hs'⟩ (fun H1 locs1 Z1 => ?_)
  refine lv_aload_n hx hb dL_law_936 rfl (lv_at hl 2 rfl) ?_
  refine lb_V (kr := 135) (As := []) (v := some (.int 0)) (s' := rs_w (rs_0 n) 0 0) (rest := [.int 0]) X Z1 (wp_R (R_lost.mpr ⟨rfl, rfl⟩)) (by decide) rfl rfl rfl (Nat.le_of_ble_eq_true rfl) (fun w hw => by cases hw) lkr_lost ⟨Nat.le_of_ble_eq_true rfl, Nat.le_of_ble_eq_true rfl⟩ hl.1 (Nat.le_of_ble_eq_true rfl) dL_law_937 ⟨rm_c hc', rm_s hs'⟩ (fun H2 locs2 Z2 _ => ?_)
  have hfin : W p l e room_1 s m #[Value.ref b] below meth c H2 locs2 cells slots (lw_Z below #[Value.ref b] s) (F0 m 945 ls []) := lb_end X Z2.1 (lv_sub hl [0, 4] rfl) hc' hs'
  exact lv_icmp_eq (tgt := 945) hx hb dL_law_940 (by decide) (fun _ => hfin) (fun h => absurd rfl h)
end LO
