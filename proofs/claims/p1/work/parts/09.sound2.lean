section MJZ
variable {Θ : mj_T} {D : va_G} {cl : List vw_C} {Ts Ns : List Cond} {Rn : Nat → String} {yn : Nat → MethodName} {l : Launch}
/-- what is shown of a run: from the frame f on method k returns v, and the store is σ' -/
def mj_Snd (l : Launch) (Θ : mj_T) (D : va_G) (cl : List vw_C) (Ts Ns : List Cond) (Rn : Nat → String) (k : Nat) (f : mj_F) (v : Option Value) (σ' : mj_S) : Prop :=
  ∀ (p : Program) (e : Env) (R : Room) (s : State) (m : MethodId) (args : Array Value) (below : List Frame) (meth : Method) (c : Code) (A : Nat → Prop) (n0 s0 : Nat), mj_Cx p s m args meth c Θ D cl Ts Rn k A s.heap → mj_N Ns s → R.frames = mj_fr Θ k → R.locals = mj_lo Θ k → R.cells = σ'.1 - n0 → R.slots = σ'.2.1 - s0 → meth.sig.returnType = mj_rt Θ k → meth.locks = false →
    mj_W p l e R s m args below meth c (MQ below (mj_Qc D cl A σ' v) args s (σ'.1 - n0) (σ'.2.1 - s0) A) D cl A s.heap n0 s0 (mj_mL Θ k) f
theorem mj_met_of {y : Nat} {as : List Value} {σ σ1 : mj_S} {v : Option Value} (hok : mj_ok Θ cl Ts Rn) (hY : mj_okY Θ Ts Rn yn y) (hc : ∀ w ∈ as, w.category = 1) (hl : as.length ≤ mj_mL Θ y) (hS : mj_Snd l Θ D cl Ts Ns Rn y (mj_en Θ y as σ) v σ1) : mj_Met l Θ D cl Ts Ns Rn yn y as σ v σ1 := by
  obtain ⟨y1, y2, y3, y4, y5, y6, y7, y8⟩ := hY
  refine Met.ofW (cc := mj_cc Θ y) (maxL := mj_mL Θ y) (ret := mj_rt Θ y) y5 rfl ?_
  intro p e s m args below meth c s₁ B hml hv
  obtain ⟨rfl, hH, hK, hKA, hNs⟩ := hv
  have hts := atoms_spec (ws := mj_ws Θ Ts yn y) B.pre
  have hown : s.vm.findClass (Rn (mj_o Θ y)) = some m.cls := by rw [← y3]; exact findClass_of_methodNamed B.named
  have hin : mj_kd Θ y = 2 → meth.name = "<init>" := fun h => by rw [(name_of_methodNamed B.named B.method).1]; exact (y8 h).1
  have hC : mj_Cx p s m as.toArray meth c Θ D cl Ts Rn y (mj_A σ) s.heap := ⟨B.exec, B.bytes, hml, hown, fun w hw => hts w (List.mem_cons_of_mem _ hw), hK, hKA, hin, fun q hq => Or.inr (by rw [hH.1]; exact hq), hok⟩
  have K := hS p e (headSpec (mj_ws Θ Ts yn y) (mj_rm Θ y (σ1.1 - σ.1) (σ1.2.1 - σ.2.1))).room s m as.toArray below meth c (mj_A σ) σ.1 σ.2.1 hC hNs rfl rfl rfl rfl B.returns B.notSynchronized s.heap [] _ hH (mj_en_L hc hl) va_S.rf (fun a x hx => Or.inl ⟨x, hx⟩) (Nat.le_refl _) (Nat.le_refl _)
  rw [entry_eq m as hc]
  have z1 : (mj_en Θ y as σ).2.2.2.1 - σ.1 = 0 := Nat.sub_self _
  have z2 : (mj_en Θ y as σ).2.2.2.2.1 - σ.2.1 = 0 := Nat.sub_self _
  rw [z1, z2] at K
  exact K
theorem mj_recvr {s : State} {H : Heap} {σ : mj_S} {b ci : Nat} {fs : List Value} (hok : mj_ok Θ cl Ts Rn) (hK : va_K D cl [] s) (hH : mj_H D cl σ H) (hb : σ.2.2 b = some (.inr (ci, fs))) : ∃ cell : Cell, H[b]? = some cell ∧ cell.vm.isStatics = false ∧ s.vm.findClass (Rn ci) = some cell.cls := by
  obtain ⟨r, h1, cell, g1, g2, g3, -⟩ := hH.2 b _ hb
  refine ⟨cell, g1, by rw [g3]; rfl, ?_⟩
  rw [g2, ← (hok.2.1 ci r h1).1]
  exact (hK.1 ci r h1).2.1
set_option maxHeartbeats 4000000 in
/-- A RUN OF THE SMALL MACHINE IS ONE OF THE MACHINE -/
theorem mj_sound (hok : mj_ok Θ cl Ts Rn) (hM : mj_okM Θ Ts Ns Rn yn) : ∀ (n k : Nat) (f : mj_F) (v : Option Value) (σ' : mj_S), mj_X n Θ k f = some (.inl v, σ') → mj_Snd l Θ D cl Ts Ns Rn k f v σ' := by
  intro n
  induction n with
  | zero => intro k f v σ' h; simp [mj_X] at h
  | succ n ih =>
    intro k f v σ' h p e R s m args below meth c A n0 s0 C hNs hF hLo hRc hRs hrt hlk
    simp only [mj_X] at h
    cases hs : mj_st Θ k f with
    | none => rw [hs] at h; cases h
    | some o =>
      rw [hs] at h
      rcases o with f' | v0 | E | ⟨y, as, g⟩
      · have hle := mj_X_le n k f' _ h
        exact mj_step C ⟨hF, hLo⟩ ⟨by rw [hRc]; have := hle.1; dsimp only at this; omega, by rw [hRs]; have := hle.2.1; dsimp only at this; omega⟩ hs (ih k f' v σ' h p e R s m args below meth c A n0 s0 C hNs hF hLo hRc hRs hrt hlk)
      · cases h
        intro H locs ls hH hl hS hdm hn hs'
        obtain ⟨hx, hb, hml, hown, hts, hK, hKA, hin, hA, -⟩ := C
        rcases mj_st_ret hs with ⟨x, hdg, hst, rfl, hf⟩ | ⟨w, hdg, hst, rfl, hf, hw⟩ | ⟨hdg, hst, rfl, hf⟩
        · rw [hst]
          obtain ⟨ty, hty, hnw, -⟩ := mj_fit_ok hf
          exact W.zret hx hb (by rw [hrt]; exact hty) hnw (fun t ht hW => ⟨rfl, by rw [ht]; exact hH, hS.F ht⟩) hS.2.2 hdg hlk
        · rw [hst]
          obtain ⟨ty, hty, -, hft⟩ := mj_fit_ok hf
          refine W.aret hx hb (by rw [hrt]; exact hty) ?_ hw (fun t ht hW => ⟨rfl, by rw [ht]; exact hH, hS.F ht⟩) hS.2.2 hdg hlk
          rcases hw with rfl | ⟨a, rfl⟩
          · cases ty <;> first | exact Or.inl ⟨_, rfl⟩ | exact Or.inr ⟨_, rfl⟩ | cases hft
          · cases ty <;> first | exact Or.inl ⟨_, rfl⟩ | exact Or.inr ⟨_, rfl⟩ | cases hft
        · rw [hst]
          exact W.vret hx hb (by rw [hrt]; exact hf) (fun t ht hW => ⟨rfl, by rw [ht]; exact hH, hS.F ht⟩) hS.2.2 hdg hlk
      · cases h
      · dsimp only at h
        obtain ⟨d, ix, hd, hm, ⟨hy9, hkd, hna, hfr, hlo, hcat, hst8, hrcv⟩, has, hg⟩ := mj_st_call hs
        obtain ⟨pc, L, st, σ⟩ := f
        dsimp only at hd hna hcat hst8 hrcv has hg
        split at h
        · next hal =>
          cases hc : mj_X n Θ y (mj_en Θ y as g.2.2.2) with
          | none => rw [hc] at h; cases h
          | some q =>
            rw [hc] at h
            rcases q with ⟨v1 | E, σ1⟩
            · dsimp only at h
              subst hg
              dsimp only at h hc
              have hcs : ∀ w ∈ st, w.category = 1 := by
                intro w hw
                have h1 : w.category ∈ st.map (fun v => v.category) := List.mem_map.mpr ⟨w, hw, rfl⟩
                rw [hcat] at h1
                obtain ⟨_, -, e1⟩ := List.mem_map.mp h1
                exact e1.symm
              have hca : ∀ w ∈ as, w.category = 1 := by
                intro w hw
                rw [has] at hw
                exact hcs w (List.mem_of_mem_take (List.mem_reverse.mp hw))
              obtain ⟨hlk1, hY⟩ := hM.2.2 _ _ _ hm hy9
              have hMet : mj_Met l Θ D cl Ts Ns Rn yn y as σ v1 σ1 := mj_met_of hok hY hca hal (ih y _ v1 σ1 hc)
              have hl1 := mj_X_le n y _ _ hc
              have hl2 := mj_X_le n k _ _ h
              simp only [mj_en] at hl1
              dsimp only at hl2
              obtain ⟨y1, y2, y3, y4, y5, y6, y7, y8⟩ := hY
              intro H locs ls hH hl hS hdm hn hs'
              have C0 := C
              obtain ⟨hx, hb, hml, hown, hts, hK, hKA, hin, hA, -⟩ := C
              dsimp only at hH hdm hn hs'
              have hG : GoodIn Ts (mj_ws Θ Ts yn y) := by
                intro w hw
                rcases List.mem_cons.mp hw with rfl | hw
                · exact ⟨y1, good_of_word (hM.1 _ y1)⟩
                · exact ⟨hw, good_of_word (hM.1 _ hw)⟩
              have hRoom : (mj_rm Θ y (σ1.1 - σ.1) (σ1.2.1 - σ.2.1)).frames + 1 ≤ R.frames ∧ 8 + (mj_mL Θ y + 11) + (mj_rm Θ y (σ1.1 - σ.1) (σ1.2.1 - σ.2.1)).locals ≤ R.locals := by
                rw [hF, hLo]; exact ⟨hfr, hlo⟩
              have hcell : σ.1 - n0 + (σ1.1 - σ.1) ≤ R.cells ∧ σ.2.1 - s0 + (σ1.2.1 - σ.2.1) ≤ R.slots := by
                rw [hRc, hRs]
                have a1 := hl1.1; have a2 := hl1.2.1; have a3 := hl2.1; have a4 := hl2.2.1
                exact ⟨by omega, by omega⟩
              have hsz : ls.size = mj_mL Θ k := hl.2.1
              have hrest : 2 * (F0 m pc ls st).monitorRoom + ((st.drop (mj_na Θ y)).map fun v => v.category).sum ≤ 8 := by
                show 2 * 0 + _ ≤ 8
                have h1 : ((st.drop (mj_na Θ y)).map fun v => v.category) = (st.drop (mj_na Θ y)).map (fun _ => 1) := List.map_congr_left (fun w hw => hcs w (List.mem_of_mem_drop hw))
                rw [mj_cat _ h1, List.length_drop]
                omega
              have hstk : st = as.reverse ++ st.drop (mj_na Θ y) := by rw [has, List.reverse_reverse, List.take_append_drop]
              have hlen : as.length = mj_na Θ y := by rw [has, List.length_reverse, List.length_take]; omega
              have hPre : ∀ U : State, U.heap = H → s.WarmedH U.vm → mj_Pc Θ D cl Ns Rn σ as as.toArray U := fun U hU hW => ⟨rfl, by rw [hU]; exact hH, va_K.moved hW.alike hK, mj_KA.moved hW.alike hKA, hNs.warm hM.2.1 hW⟩
              have hgo : va_Run p l e R s m args below meth c H locs (σ.1 - n0) (σ.2.1 - s0) (σ1.1 - σ.1) (σ1.2.1 - σ.2.1) (F0 m pc ls st) (st.drop (mj_na Θ y)) (mj_Qc D cl (mj_A σ) σ1 v1 as.toArray) (mj_A σ) := by
                rcases hd with ⟨rfl, hdg⟩ | ⟨rfl, hdg⟩ | ⟨rfl, hdg⟩
                · obtain ⟨w1, w2, w3⟩ := y6 hkd
                  cases as with
                  | nil => rw [← has] at hrcv; simp [mj_rcv] at hrcv
                  | cons a0 as' =>
                    rw [← has] at hrcv
                    cases a0 with
                    | ref b =>
                      simp only [mj_rcv] at hrcv
                      split at hrcv
                      · next ci fs hb1 =>
                        have hci : ci = mj_o Θ y := by simpa using hrcv
                        subst hci
                        have hn1 : as'.length = mj_na Θ y - 1 := by rw [← hlen, List.length_cons]; rfl
                        rcases hlk1 with hlk1 | ⟨host, hlk1⟩
                        · exact va_runV (C := Rn (mj_o Θ y)) (b := b) (As := as') (rest := st.drop (mj_na Θ y)) ⟨hx, hb, hml, hown, hts⟩ hMet ⟨callB_of (mj_na Θ y - 1) hts hG rfl rfl rfl (hts _ y2) (hts _ hlk1) ⟨y4.1, y4.2, w3⟩ hRoom, hts _ w1, hts _ w2⟩ ⟨mj_blind hM.2.1, mj_recvr hok hK hH hb1, hPre⟩ rfl hn1 hsz (by show st = as'.reverse ++ .ref b :: st.drop (mj_na Θ y); rw [List.reverse_cons, List.append_assoc] at hstk; exact hstk) hrest hdg hcell
                        · exact va_runVN (C := Rn (mj_o Θ y)) (b := b) (As := as') (rest := st.drop (mj_na Θ y)) ⟨hx, hb, hml, hown, hts⟩ hMet ⟨va_cnB (mj_na Θ y - 1) hts hG rfl rfl rfl (hNs _ hlk1) (hts _ y2) ⟨y4.1, y4.2, w3⟩ hRoom, hts _ w1, hts _ w2⟩ ⟨mj_blind hM.2.1, mj_recvr hok hK hH hb1, hPre⟩ rfl hn1 hsz (by show st = as'.reverse ++ .ref b :: st.drop (mj_na Θ y); rw [List.reverse_cons, List.append_assoc] at hstk; exact hstk) hrest hdg hcell
                      · cases hrcv
                    | _ => simp [mj_rcv] at hrcv
                · obtain ⟨w1, w2⟩ := y7 hkd
                  rcases hlk1 with hlk1 | ⟨host, hlk1⟩
                  · exact va_runS (As := as) (rest := st.drop (mj_na Θ y)) ⟨hx, hb, hml, hown, hts⟩ hMet ⟨callB_of (mj_na Θ y) hts hG rfl rfl rfl (hts _ y2) (hts _ hlk1) ⟨y4.1, y4.2, w2⟩ hRoom, hts _ w1⟩ ⟨mj_blind hM.2.1, hPre⟩ rfl hlen hsz hstk hrest hdg hcell
                  · exact va_runSN (As := as) (rest := st.drop (mj_na Θ y)) ⟨hx, hb, hml, hown, hts⟩ hMet ⟨va_cnB (mj_na Θ y) hts hG rfl rfl rfl (hNs _ hlk1) (hts _ y2) ⟨y4.1, y4.2, w2⟩ hRoom, hts _ w1, trivial⟩ ⟨mj_blind hM.2.1, hPre⟩ rfl hlen hsz hstk hrest hdg hcell
                · obtain ⟨w1, w2, w3, w4⟩ := y8 hkd
                  cases as with
                  | nil => rw [← has] at hrcv; simp [mj_rcv] at hrcv
                  | cons a0 as' =>
                    rw [← has] at hrcv
                    cases a0 with
                    | ref b =>
                      have hn1 : as'.length = mj_na Θ y - 1 := by rw [← hlen, List.length_cons]; rfl
                      have hw : mj_ws Θ Ts yn y = Cond.code (yn y) (mj_cc Θ y) (mj_mL Θ y) none :: Ts := by rw [← w3]; rfl
                      rcases hlk1 with hlk1 | ⟨host, hlk1⟩
                      · exact va_runI (b := b) (As := as') (rest := st.drop (mj_na Θ y)) ⟨hx, hb, hml, hown, hts⟩ hMet ⟨callB_of (mj_na Θ y - 1) hts hG hw rfl rfl (hts _ y2) (hts _ hlk1) ⟨y4.1, y4.2, w4⟩ hRoom, w1, hts _ w2⟩ ⟨mj_blind hM.2.1, hPre⟩ rfl hn1 hsz (by show st = as'.reverse ++ .ref b :: st.drop (mj_na Θ y); rw [List.reverse_cons, List.append_assoc] at hstk; exact hstk) hrest hdg hcell
                      · exact va_runIN (b := b) (As := as') (rest := st.drop (mj_na Θ y)) ⟨hx, hb, hml, hown, hts⟩ hMet ⟨va_cnB (mj_na Θ y - 1) hts hG hw rfl rfl (hNs _ hlk1) (hts _ y2) ⟨y4.1, y4.2, w4⟩ hRoom, w1, hts _ w2⟩ ⟨mj_blind hM.2.1, hPre⟩ rfl hn1 hsz (by show st = as'.reverse ++ .ref b :: st.drop (mj_na Θ y); rw [List.reverse_cons, List.append_assoc] at hstk; exact hstk) hrest hdg hcell
                    | _ => simp [mj_rcv] at hrcv
              refine mj_ret hgo hS (fun q _ hq => ?_) (fun q hq => ?_) (fun H1 locs1 hH1 hS1 => ?_)
              · rcases hq with ⟨x, hx1⟩ | hq
                · exact hdm q x hx1
                · exact hA q (Nat.le_trans hS.1 (by rw [← hH.1]; exact hq))
              · rcases hq with ⟨x, hx1⟩ | hq
                · exact hdm q x hx1
                · exact hA q (Nat.le_trans hS.1 (by rw [← hH.1]; exact hq))
              · have K := ih k _ v σ' h p e R s m args below meth c A n0 s0 C0 hNs hF hLo hRc hRs hrt hlk H1 locs1 ls hH1 hl hS1 (fun a x hx1 => by
                  rcases hl1.2.2 a x hx1 with ⟨x2, hx2⟩ | hx2
                  · exact hdm a x2 hx2
                  · exact hA a (Nat.le_trans hS.1 (by rw [← hH.1]; exact hx2))) (Nat.le_trans hn hl1.1) (Nat.le_trans hs' hl1.2.1)
                dsimp only at K
                have ec : σ1.1 - n0 = σ.1 - n0 + (σ1.1 - σ.1) := by have := hl1.1; omega
                have es : σ1.2.1 - s0 = σ.2.1 - s0 + (σ1.2.1 - σ.2.1) := by have := hl1.2.1; omega
                rw [ec, es] at K
                exact K
            · dsimp only at h
              split at h
              · cases h
              · cases h
        · cases h
end MJZ
