section MJY
variable {Θ : mj_T} {D : va_G} {cl : List vw_C} {Ts Ns : List Cond} {Ss : List (String × Nat × String)} {Rn : Nat → String} {yn : Nat → MethodName} {l : Launch} {k : Nat}
set_option maxHeartbeats 4000000 in
/-- a call that returns, whatever comes behind it -/
theorem mj_cret {p : Program} {e : Env} {R : Room} {s : State} {m : MethodId} {args : Array Value} {below : List Frame} {meth : Method} {c : Code} {A : Nat → Prop} {n0 s0 n y : Nat} {Q : State → Prop} {f g : mj_F} {as : List Value} {v1 : Option Value} {σ1 : mj_S} (hok : mj_ok Θ cl Ts Rn) (hM : mj_okM Θ Ts Ns Rn yn) (C : mj_Cx p s m args meth c Θ D cl Ts Rn k A s.heap) (hNs : mj_N Ns s) (hF : R.frames = mj_fr Θ k) (hLo : R.locals = mj_lo Θ k) (hR : σ1.1 - n0 ≤ R.cells ∧ σ1.2.1 - s0 ≤ R.slots)
    (hs : mj_st Θ k f = some (.inr (.inr (.inr (y, as, g))))) (hal : as.length ≤ mj_mL Θ y) (hc : mj_X n Θ y (mj_en Θ y as g.2.2.2) = some (.inl v1, σ1)) (kk : mj_W p l e R s m args below meth c Q D cl A s.heap n0 s0 (mj_mL Θ k) (g.1, g.2.1, v1.toList ++ g.2.2.1, σ1)) : mj_W p l e R s m args below meth c Q D cl A s.heap n0 s0 (mj_mL Θ k) f := by
  obtain ⟨d, ix, hd, hm, ⟨hy9, hkd, hna, hfr, hlo, hcat, hst8, hrcv⟩, has, hg⟩ := mj_st_call hs
  obtain ⟨pc, L, st, σ⟩ := f
  dsimp only at hd hna hcat hst8 hrcv has hg
  subst hg
  dsimp only at hc kk
  have hcs : ∀ w ∈ st, w.category = 1 := by
    intro w hw
    have h1 : w.category ∈ st.map (fun v => v.category) := List.mem_map.mpr ⟨w, hw, rfl⟩
    rw [hcat] at h1
    obtain ⟨_, -, e1⟩ := List.mem_map.mp h1
    exact e1.symm
  have hca : ∀ w ∈ as, w.category = 1 := by
    intro w hw
    rw [has] at hw
    exact hcs w (List.mem_of_mem_take (List.mem_reverse.mp hw))
  obtain ⟨hlk1, hY⟩ := hM.2.2 _ _ _ hm hy9
  have hMet : mj_Met l Θ D cl Ts Ns Rn yn y as σ v1 σ1 := mj_met_of hok hY hca hal (mj_sound hok hM n y _ v1 σ1 hc)
  have hl1 := mj_X_le n y _ _ hc
  simp only [mj_en] at hl1
  obtain ⟨y1, y2, y3, y4, y5, y6, y7, y8⟩ := hY
  intro H locs ls hH hl hS hdm hn hs'
  obtain ⟨hx, hb, hml, hown, hts, hK, hKA, hin, hA, -⟩ := C
  dsimp only at hH hdm hn hs'
  have hG : GoodIn Ts (mj_ws Θ Ts yn y) := by
    intro w hw
    rcases List.mem_cons.mp hw with rfl | hw
    · exact ⟨y1, good_of_word (hM.1 _ y1)⟩
    · exact ⟨hw, good_of_word (hM.1 _ hw)⟩
  have hRoom : (mj_rm Θ y (σ1.1 - σ.1) (σ1.2.1 - σ.2.1)).frames + 1 ≤ R.frames ∧ 8 + (mj_mL Θ y + 11) + (mj_rm Θ y (σ1.1 - σ.1) (σ1.2.1 - σ.2.1)).locals ≤ R.locals := by
    rw [hF, hLo]; exact ⟨hfr, hlo⟩
  have hcell : σ.1 - n0 + (σ1.1 - σ.1) ≤ R.cells ∧ σ.2.1 - s0 + (σ1.2.1 - σ.2.1) ≤ R.slots := by
    have a1 := hl1.1; have a2 := hl1.2.1
    have b1 := hR.1; have b2 := hR.2
    exact ⟨by omega, by omega⟩
  have hsz : ls.size = mj_mL Θ k := hl.2.1
  have hrest : 2 * (F0 m pc ls st).monitorRoom + ((st.drop (mj_na Θ y)).map fun v => v.category).sum ≤ 8 := by
    show 2 * 0 + _ ≤ 8
    have h1 : ((st.drop (mj_na Θ y)).map fun v => v.category) = (st.drop (mj_na Θ y)).map (fun _ => 1) := List.map_congr_left (fun w hw => hcs w (List.mem_of_mem_drop hw))
    rw [mj_cat _ h1, List.length_drop]
    omega
  have hstk : st = as.reverse ++ st.drop (mj_na Θ y) := by rw [has, List.reverse_reverse, List.take_append_drop]
  have hlen : as.length = mj_na Θ y := by rw [has, List.length_reverse, List.length_take]; omega
  have hPre : ∀ U : State, U.heap = H → s.WarmedH U.vm → mj_Pc Θ D cl Ns Rn σ as as.toArray U := fun U hU hW => ⟨rfl, by rw [hU]; exact hH, va_K.moved hW.alike hK, mj_KA.moved hW.alike hKA, hNs.warm hM.2.1 hW⟩
  have hgo : va_Run p l e R s m args below meth c H locs (σ.1 - n0) (σ.2.1 - s0) (σ1.1 - σ.1) (σ1.2.1 - σ.2.1) (F0 m pc ls st) (st.drop (mj_na Θ y)) (mj_Qc D cl (mj_A σ) σ1 v1 as.toArray) (mj_A σ) := by
    rcases hd with ⟨rfl, hdg⟩ | ⟨rfl, hdg⟩ | ⟨rfl, hdg⟩
    · obtain ⟨w1, w2, w3⟩ := y6 hkd
      cases as with
      | nil => rw [← has] at hrcv; simp [mj_rcv] at hrcv
      | cons a0 as' =>
        rw [← has] at hrcv
        cases a0 with
        | ref b =>
          simp only [mj_rcv] at hrcv
          split at hrcv
          · next ci fs hb1 =>
            have hci : ci = mj_o Θ y := by simpa using hrcv
            subst hci
            have hn1 : as'.length = mj_na Θ y - 1 := by rw [← hlen, List.length_cons]; rfl
            rcases hlk1 with hlk1 | ⟨host, hlk1⟩
            · exact va_runV (C := Rn (mj_o Θ y)) (b := b) (As := as') (rest := st.drop (mj_na Θ y)) ⟨hx, hb, hml, hown, hts⟩ hMet ⟨callB_of (mj_na Θ y - 1) hts hG rfl rfl rfl (hts _ y2) (hts _ hlk1) ⟨y4.1, y4.2, w3⟩ hRoom, hts _ w1, hts _ w2⟩ ⟨mj_blind hM.2.1, mj_recvr hok hK hH hb1, hPre⟩ rfl hn1 hsz (by show st = as'.reverse ++ .ref b :: st.drop (mj_na Θ y); rw [List.reverse_cons, List.append_assoc] at hstk; exact hstk) hrest hdg hcell
            · exact va_runVN (C := Rn (mj_o Θ y)) (b := b) (As := as') (rest := st.drop (mj_na Θ y)) ⟨hx, hb, hml, hown, hts⟩ hMet ⟨va_cnB (mj_na Θ y - 1) hts hG rfl rfl rfl (hNs _ hlk1) (hts _ y2) ⟨y4.1, y4.2, w3⟩ hRoom, hts _ w1, hts _ w2⟩ ⟨mj_blind hM.2.1, mj_recvr hok hK hH hb1, hPre⟩ rfl hn1 hsz (by show st = as'.reverse ++ .ref b :: st.drop (mj_na Θ y); rw [List.reverse_cons, List.append_assoc] at hstk; exact hstk) hrest hdg hcell
          · cases hrcv
        | _ => simp [mj_rcv] at hrcv
    · obtain ⟨w1, w2⟩ := y7 hkd
      rcases hlk1 with hlk1 | ⟨host, hlk1⟩
      · exact va_runS (As := as) (rest := st.drop (mj_na Θ y)) ⟨hx, hb, hml, hown, hts⟩ hMet ⟨callB_of (mj_na Θ y) hts hG rfl rfl rfl (hts _ y2) (hts _ hlk1) ⟨y4.1, y4.2, w2⟩ hRoom, hts _ w1⟩ ⟨mj_blind hM.2.1, hPre⟩ rfl hlen hsz hstk hrest hdg hcell
      · exact va_runSN (As := as) (rest := st.drop (mj_na Θ y)) ⟨hx, hb, hml, hown, hts⟩ hMet ⟨va_cnB (mj_na Θ y) hts hG rfl rfl rfl (hNs _ hlk1) (hts _ y2) ⟨y4.1, y4.2, w2⟩ hRoom, hts _ w1, trivial⟩ ⟨mj_blind hM.2.1, hPre⟩ rfl hlen hsz hstk hrest hdg hcell
    · obtain ⟨w1, w2, w3, w4⟩ := y8 hkd
      cases as with
      | nil => rw [← has] at hrcv; simp [mj_rcv] at hrcv
      | cons a0 as' =>
        rw [← has] at hrcv
        cases a0 with
        | ref b =>
          have hn1 : as'.length = mj_na Θ y - 1 := by rw [← hlen, List.length_cons]; rfl
          have hw : mj_ws Θ Ts yn y = Cond.code (yn y) (mj_cc Θ y) (mj_mL Θ y) none :: Ts := by rw [← w3]; rfl
          rcases hlk1 with hlk1 | ⟨host, hlk1⟩
          · exact va_runI (b := b) (As := as') (rest := st.drop (mj_na Θ y)) ⟨hx, hb, hml, hown, hts⟩ hMet ⟨callB_of (mj_na Θ y - 1) hts hG hw rfl rfl (hts _ y2) (hts _ hlk1) ⟨y4.1, y4.2, w4⟩ hRoom, w1, hts _ w2⟩ ⟨mj_blind hM.2.1, hPre⟩ rfl hn1 hsz (by show st = as'.reverse ++ .ref b :: st.drop (mj_na Θ y); rw [List.reverse_cons, List.append_assoc] at hstk; exact hstk) hrest hdg hcell
          · exact va_runIN (b := b) (As := as') (rest := st.drop (mj_na Θ y)) ⟨hx, hb, hml, hown, hts⟩ hMet ⟨va_cnB (mj_na Θ y - 1) hts hG hw rfl rfl (hNs _ hlk1) (hts _ y2) ⟨y4.1, y4.2, w4⟩ hRoom, w1, hts _ w2⟩ ⟨mj_blind hM.2.1, hPre⟩ rfl hn1 hsz (by show st = as'.reverse ++ .ref b :: st.drop (mj_na Θ y); rw [List.reverse_cons, List.append_assoc] at hstk; exact hstk) hrest hdg hcell
        | _ => simp [mj_rcv] at hrcv
  refine mj_ret hgo hS (fun q _ hq => ?_) (fun q hq => ?_) (fun H1 locs1 hH1 hS1 => ?_)
  · rcases hq with ⟨x, hx1⟩ | hq
    · exact hdm q x hx1
    · exact hA q (Nat.le_trans hS.1 (by rw [← hH.1]; exact hq))
  · rcases hq with ⟨x, hx1⟩ | hq
    · exact hdm q x hx1
    · exact hA q (Nat.le_trans hS.1 (by rw [← hH.1]; exact hq))
  · have K := kk H1 locs1 ls hH1 hl hS1 (fun a x hx1 => by
      rcases hl1.2.2 a x hx1 with ⟨x2, hx2⟩ | hx2
      · exact hdm a x2 hx2
      · exact hA a (Nat.le_trans hS.1 (by rw [← hH.1]; exact hx2))) (Nat.le_trans hn hl1.1) (Nat.le_trans hs' hl1.2.1)
    dsimp only at K
    have ec : σ1.1 - n0 = σ.1 - n0 + (σ1.1 - σ.1) := by have := hl1.1; omega
    have es : σ1.2.1 - s0 = σ.2.1 - s0 + (σ1.2.1 - σ.2.1) := by have := hl1.2.1; omega
    rw [ec, es] at K
    exact K
set_option maxHeartbeats 4000000 in
/-- A RUN OF THE SMALL MACHINE THAT THROWS IS ONE OF THE MACHINE -/
theorem mj_soundX (hlt : l.stackTraces = false) (hok : mj_ok Θ cl Ts Rn) (hM : mj_okM Θ Ts Ns Rn yn) (hX : mj_okX Θ Ts Ns Ss Rn) (hV : mj_okV Θ Ts Rn yn) : ∀ (n k : Nat) (f : mj_F) (E : String) (σ' : mj_S), mj_X n Θ k f = some (.inr E, σ') → mj_SndX l Θ D cl Ts Ns Ss Rn k f E σ' := by
  intro n
  induction n with
  | zero => intro k f E σ' h; simp [mj_X] at h
  | succ n ih =>
    intro k f E σ' h p e R s m args below meth c A n0 s0 C hNs hXP hxt hF hLo hRc hRs hlk
    simp only [mj_X] at h
    cases hs : mj_st Θ k f with
    | none => rw [hs] at h; cases h
    | some o =>
      rw [hs] at h
      rcases o with f' | v0 | E0 | ⟨y, as, g⟩
      · have hle := mj_X_le n k f' _ h
        exact mj_step C ⟨hF, hLo⟩ ⟨by rw [hRc]; have := hle.1; dsimp only at this; omega, by rw [hRs]; have := hle.2.1; dsimp only at this; omega⟩ hs (ih k f' E σ' h p e R s m args below meth c A n0 s0 C hNs hXP hxt hF hLo hRc hRs hlk)
      · cases h
      · cases h
        obtain ⟨pc, L, st, σ⟩ := f
        obtain ⟨ix, hd0, hxl, hst⟩ := mj_st_thr hs
        dsimp only at hd0 hxl hst
        subst hst
        obtain ⟨pc', ik, is, ic, text, hpc, d0, d3, d4, d6, d9, w1, w2, w3, w4, w5, w6, w7, w8⟩ := hX _ _ _ hxl
        have hpc2 : pc = pc' := by omega
        subst hpc2
        obtain ⟨hx, hb, hml, hown, hts, hK, hKA, hin, hA, -⟩ := C
        obtain ⟨hP1, hP2, hP3⟩ := hXP
        obtain ⟨sa, hsa⟩ := hP1 _ w3
        intro H locs ls hH hl hS hdm hn hs'
        dsimp only at hH hl hdm hn hs' hRc hRs
        refine vx_throwS (own := Rn (mj_o Θ k)) (cls := E) (text := text) (names := mj_nms) (A := A) hx hb hlt hown w6 (by decide) (hts _ w1) (hts _ w2) hsa (fun w hw => ?_) (fun w hw => ?_) hP2 hP3 hS (hl.2.1.trans hml.symm) d0 d3 d4 d6 d9 (fun x hx1 => (hxt x hx1).elim) (by rw [hF]; exact Nat.lt_of_lt_of_le (by decide : mj_nms.length + 3 < 6) w7) (by rw [hLo]; exact Nat.le_trans (by decide : (([] : List Value).map fun v => v.category).sum + (13 * (mj_nms.length + 1) + 43) ≤ 90) w8) (by rw [hRc]; exact Nat.le_refl _) (by rw [hRs]; exact Nat.le_refl _) hlk (fun t _ hsz hq => ⟨rfl, fun a x ha => (hH.2 a x ha).kept (hq a ((hH.2 a x ha).lt)), by rw [hH.1]; exact hsz, ⟨Nat.le_trans hS.1 hsz, fun q h1 h2 => by rw [hq q (Nat.lt_of_lt_of_le h1 hS.1)]; exact hS.2.1 q h1 h2⟩⟩) hS.2.2 (Nat.le_refl _) (Nat.le_refl _)
        · rcases w4 w hw with h1 | h1
          · exact hts w h1
          · exact va_tabs (by
              rcases hM.2.1 w h1 with ⟨a, i, x, g, rfl⟩ | ⟨x, rfl⟩ | ⟨a, b, rfl⟩ <;> rfl) rfl (hNs w h1)
        · rcases List.mem_cons.mp hw with rfl | hw
          · rfl
          · rcases List.mem_cons.mp hw with rfl | hw
            · rfl
            · exact w5 w hw
      · dsimp only at h
        split at h
        · next hal =>
          cases hc : mj_X n Θ y (mj_en Θ y as g.2.2.2) with
          | none => rw [hc] at h; cases h
          | some q =>
            rw [hc] at h
            rcases q with ⟨v1 | E1, σ1⟩
            · dsimp only at h
              have hl2 := mj_X_le n k _ _ h
              dsimp only at hl2
              exact mj_cret hok hM C hNs hF hLo ⟨by rw [hRc]; have := hl2.1; omega, by rw [hRs]; have := hl2.2.1; omega⟩ hs hal hc (ih k _ E σ' h p e R s m args below meth c A n0 s0 C hNs hXP hxt hF hLo hRc hRs hlk)
            · dsimp only at h
              split at h
              · next hk0 =>
                cases h
                obtain ⟨d, ix, hd, hm, ⟨hy9, hkd, hna, hfr, hlo, hcat, hst8, hrcv⟩, has, hg⟩ := mj_st_call hs
                obtain ⟨pc, L, st, σ⟩ := f
                dsimp only at hd hna hcat hst8 hrcv has hg
                subst hg
                dsimp only at hc
                have hd0 : d = 0 := by rw [← hkd]; exact hk0
                subst hd0
                have hdg : decode (mj_cc Θ k) pc = .ok (.invokevirtual ix, 3) := by
                  rcases hd with ⟨-, h1⟩ | ⟨h1, -⟩ | ⟨h1, -⟩
                  · exact h1
                  · cases h1
                  · cases h1
                have hcs : ∀ w ∈ st, w.category = 1 := by
                  intro w hw
                  have h1 : w.category ∈ st.map (fun v => v.category) := List.mem_map.mpr ⟨w, hw, rfl⟩
                  rw [hcat] at h1
                  obtain ⟨_, -, e1⟩ := List.mem_map.mp h1
                  exact e1.symm
                have hca : ∀ w ∈ as, w.category = 1 := by
                  intro w hw
                  rw [has] at hw
                  exact hcs w (List.mem_of_mem_take (List.mem_reverse.mp hw))
                obtain ⟨-, hY⟩ := hM.2.2 _ _ _ hm hy9
                have hlk1 := hV _ _ _ hm hy9 hk0
                have hMet : mj_MetX l Θ D cl Ts Ns Ss Rn yn y as σ E σ' := mj_metX_of hok hY hca hal (ih y _ E σ' hc)
                have hl1 := mj_X_le n y _ _ hc
                simp only [mj_en] at hl1
                obtain ⟨y1, y2, y3, y4, y5, y6, y7, y8⟩ := hY
                intro H locs ls hH hl hS hdm hn hs'
                obtain ⟨hx, hb, hml, hown, hts, hK, hKA, hin, hA, -⟩ := C
                dsimp only at hH hdm hn hs'
                have hAA : ∀ q, mj_A σ q → A q := fun q hq => by
                  rcases hq with ⟨x, hx1⟩ | hq
                  · exact hdm q x hx1
                  · exact hA q (Nat.le_trans hS.1 (by rw [← hH.1]; exact hq))
                have hG : GoodIn Ts (mj_ws Θ Ts yn y) := by
                  intro w hw
                  rcases List.mem_cons.mp hw with rfl | hw
                  · exact ⟨y1, good_of_word (hM.1 _ y1)⟩
                  · exact ⟨hw, good_of_word (hM.1 _ hw)⟩
                have hRoom : (mj_rm Θ y (σ'.1 - σ.1 + 1) (σ'.2.1 - σ.2.1 + 6)).frames + 1 ≤ R.frames ∧ 8 + (mj_mL Θ y + 11) + (mj_rm Θ y (σ'.1 - σ.1 + 1) (σ'.2.1 - σ.2.1 + 6)).locals ≤ R.locals := by
                  rw [hF, hLo]; exact ⟨hfr, hlo⟩
                have hcell : σ.1 - n0 + (σ'.1 - σ.1 + 1) ≤ R.cells ∧ σ.2.1 - s0 + (σ'.2.1 - σ.2.1 + 6) ≤ R.slots := by
                  rw [hRc, hRs]
                  have a1 := hl1.1; have a2 := hl1.2.1
                  exact ⟨by omega, by omega⟩
                have hsz : ls.size = mj_mL Θ k := hl.2.1
                have hrest : 2 * (F0 m pc ls st).monitorRoom + ((st.drop (mj_na Θ y)).map fun v => v.category).sum ≤ 8 := by
                  show 2 * 0 + _ ≤ 8
                  have h1 : ((st.drop (mj_na Θ y)).map fun v => v.category) = (st.drop (mj_na Θ y)).map (fun _ => 1) := List.map_congr_left (fun w hw => hcs w (List.mem_of_mem_drop hw))
                  rw [mj_cat _ h1, List.length_drop]
                  omega
                have hstk : st = as.reverse ++ st.drop (mj_na Θ y) := by rw [has, List.reverse_reverse, List.take_append_drop]
                have hlen : as.length = mj_na Θ y := by rw [has, List.length_reverse, List.length_take]; omega
                have hXPc : mj_XP Ss (mj_A σ) s H := hXP.kept (fun a h1 h2 => hS.2.1 a h1 h2) hAA
                have hPre : ∀ U : State, U.heap = H → s.WarmedH U.vm → mj_PcX Θ D cl Ns Ss Rn σ as as.toArray U := fun U hU hW => ⟨⟨rfl, by rw [hU]; exact hH, va_K.moved hW.alike hK, mj_KA.moved hW.alike hKA, hNs.warm hM.2.1 hW⟩, by rw [hU]; exact hXPc.warm hW⟩
                have hbl : FrameBlind (mj_PcX Θ D cl Ns Ss Rn σ as) := fun a U g mk q => ⟨mj_blind hM.2.1 a U g mk q.1, mj_XP.same (u := U) (U := U.calling g mk a) rfl q.2⟩
                obtain ⟨w1, w2, w3⟩ := y6 hk0
                cases as with
                | nil => rw [← has] at hrcv; simp [mj_rcv] at hrcv
                | cons a0 as' =>
                  rw [← has] at hrcv
                  cases a0 with
                  | ref b =>
                    simp only [mj_rcv] at hrcv
                    split at hrcv
                    · next ci fs hb1 =>
                      have hci : ci = mj_o Θ y := by simpa using hrcv
                      subst hci
                      have hn1 : as'.length = mj_na Θ y - 1 := by rw [← hlen, List.length_cons]; rfl
                      have hgo := vx_runV (C := Rn (mj_o Θ y)) (b := b) (As := as') (rest := st.drop (mj_na Θ y)) (H := H) (locs := locs) (cells := σ.1 - n0) (slots := σ.2.1 - s0) (e := e) (below := below) (meth := meth) (g := F0 m pc ls st) ⟨hx, hb, hml, hown, hts⟩ hMet ⟨callB_of (mj_na Θ y - 1) hts hG rfl rfl rfl (hts _ y2) (hts _ hlk1) ⟨y4.1, y4.2, w3⟩ hRoom, hts _ w1, hts _ w2⟩ ⟨hbl, mj_recvr hok hK hH hb1, hPre⟩ rfl hn1 hsz (by show st = as'.reverse ++ .ref b :: st.drop (mj_na Θ y); rw [List.reverse_cons, List.append_assoc] at hstk; exact hstk) hrest hdg hcell
                      exact mj_retX hgo hS (fun q _ hq => hAA q hq) hAA hxt hlk (by have a1 := hl1.1; show σ.1 - n0 + (σ'.1 - σ.1 + 1) ≤ σ'.1 - n0 + 1; omega) (by have a2 := hl1.2.1; show σ.2.1 - s0 + (σ'.2.1 - σ.2.1 + 6) ≤ σ'.2.1 - s0 + 6; omega)
                    · cases hrcv
                  | _ => simp [mj_rcv] at hrcv
              · cases h
        · cases h
end MJY
