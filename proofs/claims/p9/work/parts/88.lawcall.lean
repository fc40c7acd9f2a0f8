section LWA
variable {p : Program} {l : Launch} {e : Env} {R : Room} {s : State} {m : MethodId} {args : Array Value} {below : List Frame} {meth : Method} {c : Code} {H : Heap} {locs : List Loc} {cells slots : Nat} {Q : State → Prop} {ls : Array Slot} {pc : Nat} {cc : ByteArray} {nL : Nat} {ar : Nat → ClassId} {D : va_G} {A : Nat → Prop} {σ σ1 : mj_S} {v : Option Value} {rest As : List Value} {b y ix : Nat} {fs : List Value}
/-- what holds in a frame of the law's class -/
def lw_C (p : Program) (s : State) (m : MethodId) (args : Array Value) (c : Code) (cc : ByteArray) (nL : Nat) (ar : Nat → ClassId) (D : va_G) : Prop := p.tables.exec = Jvm.exec ∧ c.code = cc ∧ c.maxLocals = nL ∧ s.vm.findClass RL = some m.cls ∧ (∀ w ∈ tb_W, w.before args s = true) ∧ va_K D tb_cl [] s ∧ mj_KA (tb ar) tb_R s ∧ mj_N tb_N s
/-- behind a call: the store, and that all else stays -/
theorem mj_retK {A0 A1 : Nat → Prop} {H0 : Heap} {mc ms : Nat} {free : Addr → Prop} {st0 : List Value} {cl : List vw_C} {a : Array Value} (hr : va_Run p l e R s m args below meth c H locs cells slots mc ms (F0 m pc ls st0) rest (mj_Qc D cl A1 σ1 v a) free) (hS : va_S A0 H0 H locs) (hA : ∀ q, q < H.size → A1 q → A0 q) (hf : ∀ q, free q → A0 q)
    (kk : ∀ (H1 : Heap) (locs1 : List Loc), mj_H D cl σ1 H1 → va_S A0 H0 H1 locs1 → H.size ≤ H1.size → (∀ q : Nat, q < H.size → ¬ A1 q → H1[q]? = H[q]?) → W p l e R s m args below meth c H1 locs1 (cells + mc) (slots + ms) Q (F0 m (pc + 3) ls (v.toList ++ rest))) : W p l e R s m args below meth c H locs cells slots Q (F0 m pc ls st0) := by
  intro T hT X
  obtain ⟨v', st₀, t, T', L, h0, X', hL, e1, e2, ⟨hv, hH1, hz, hk⟩, st⟩ := hr T hT X
  cases hv
  rw [h0] at hz hk
  obtain ⟨t2, a1, b1⟩ := kk T'.heap (locs ++ L) (by rw [e1]; exact hH1)
    ⟨Nat.le_trans hS.1 (by rw [e1]; exact hz), fun q h1 h2 => by rw [e1, hk q (Nat.lt_of_lt_of_le h1 hS.1) (fun z => h2 (hA q (Nat.lt_of_lt_of_le h1 hS.1) z))]; exact hS.2.1 q h1 h2, fun q hq => by
      rcases List.mem_append.mp hq with h | h
      · exact hS.2.2 q h
      · exact hf _ (hL q h)⟩ (by rw [e1]; exact hz) (fun q hq hn => by rw [e1]; exact hk q hq hn) T' rfl X'
  exact ⟨t2, st t2 a1, b1⟩
theorem lw_G (hY : mj_okY (tb ar) tb_W tb_R tb_Y y) : GoodIn tb_W (mj_ws (tb ar) tb_W tb_Y y) := by
  have hM := tb_okM ar
  intro w hw
  rcases List.mem_cons.mp hw with rfl | hw
  · exact ⟨hY.1, good_of_word (hM.1 _ hY.1)⟩
  · exact ⟨hw, good_of_word (hM.1 _ hw)⟩
theorem lw_free (hS : va_S A s.heap H locs) (hH : mj_H D tb_cl σ H) (hdm : ∀ (a : Nat) (x : va_E), σ.2.2 a = some x → A a) (hA : ∀ q, s.heap.size ≤ q → A q) : ∀ q, mj_A σ q → A q := by
  intro q hq
  rcases hq with ⟨x, hx⟩ | hq
  · exact hdm q x hx
  · exact hA q (Nat.le_trans hS.1 (by rw [← hH.1]; exact hq))
/-- a virtual call that returns -/
theorem lw_V (C : lw_C p s m args c cc nL ar D) (hr : mj_R (tb ar) y (mj_en (tb ar) y (.ref b :: As) σ) (.inl v, σ1)) (hy : y < 138) (hkd : mj_kd (tb ar) y = 0) (hn : As.length = mj_na (tb ar) y - 1) (hal : (Value.ref b :: As).length ≤ mj_mL (tb ar) y) (hcat : ∀ w ∈ As, w.category = 1) (hlk : Cond.methodLink RL ix (tb_Y y) ∈ tb_W) (hb1 : σ.2.2 b = some (.inr (mj_o (tb ar) y, fs))) (hH : mj_H D tb_cl σ H) (hS : va_S A s.heap H locs) (hdm : ∀ (a : Nat) (x : va_E), σ.2.2 a = some x → A a) (hA : ∀ q, s.heap.size ≤ q → A q) (hroom : mj_fr (tb ar) y + 1 ≤ R.frames ∧ 8 + (mj_mL (tb ar) y + 11) + mj_lo (tb ar) y ≤ R.locals) (hls : ls.size = nL) (hrest : 2 * 0 + (rest.map fun v => v.category).sum ≤ 8) (hdg : decode cc pc = .ok (.invokevirtual ix, 3)) (hf : cells + (σ1.1 - σ.1) ≤ R.cells ∧ slots + (σ1.2.1 - σ.2.1) ≤ R.slots)
    (kk : ∀ (H1 : Heap) (locs1 : List Loc), mj_H D tb_cl σ1 H1 → va_S A s.heap H1 locs1 → H.size ≤ H1.size → (∀ q : Nat, q < H.size → ¬ mj_A σ q → H1[q]? = H[q]?) → W p l e R s m args below meth c H1 locs1 (cells + (σ1.1 - σ.1)) (slots + (σ1.2.1 - σ.2.1)) Q (F0 m (pc + 3) ls (v.toList ++ rest))) : W p l e R s m args below meth c H locs cells slots Q (F0 m pc ls (As.reverse ++ .ref b :: rest)) := by
  obtain ⟨hx, hb, hml, hown, hts, hK, hKA, hNs⟩ := C
  obtain ⟨n, hX⟩ := hr
  have hok := tb_ok ar
  have hM := tb_okM ar
  have hY := oy_all ar y hy
  have hca : ∀ w ∈ Value.ref b :: As, w.category = 1 := fun w hw => by
    rcases List.mem_cons.mp hw with rfl | hw
    · rfl
    · exact hcat w hw
  have hMet : mj_Met l (tb ar) D tb_cl tb_W tb_N tb_R tb_Y y (.ref b :: As) σ v σ1 := mj_met_of hok hY hca hal (mj_sound hok hM n y _ v σ1 hX)
  have hG := lw_G hY
  obtain ⟨y1, y2, y3, y4, y5, y6, y7, y8⟩ := hY
  obtain ⟨w1, w2, w3⟩ := y6 hkd
  have hPre : ∀ U : State, U.heap = H → s.WarmedH U.vm → mj_Pc (tb ar) D tb_cl tb_N tb_R σ (.ref b :: As) (Value.ref b :: As).toArray U := fun U hU hW => ⟨rfl, by rw [hU]; exact hH, va_K.moved hW.alike hK, mj_KA.moved hW.alike hKA, hNs.warm hM.2.1 hW⟩
  have hgo := va_runV (C := tb_R (mj_o (tb ar) y)) (b := b) (As := As) (rest := rest) (g := F0 m pc ls (As.reverse ++ .ref b :: rest)) (e := e) (below := below) (meth := meth) (locs := locs) (cells := cells) (slots := slots) ⟨hx, hb, hml, hown, hts⟩ hMet ⟨callB_of (mj_na (tb ar) y - 1) hts hG rfl rfl rfl (hts _ y2) (hts _ hlk) ⟨y4.1, y4.2, w3⟩ hroom, hts _ w1, hts _ w2⟩ ⟨mj_blind hM.2.1, mj_recvr hok hK hH hb1, hPre⟩ rfl hn hls rfl hrest hdg hf
  have hfr := lw_free hS hH hdm hA
  exact mj_retK hgo hS (fun q _ hq => hfr q hq) hfr kk
/-- a constructor's call -/
theorem lw_I (C : lw_C p s m args c cc nL ar D) (hr : mj_R (tb ar) y (mj_en (tb ar) y (.ref b :: As) σ) (.inl v, σ1)) (hy : y < 138) (hkd : mj_kd (tb ar) y = 2) (hn : As.length = mj_na (tb ar) y - 1) (hal : (Value.ref b :: As).length ≤ mj_mL (tb ar) y) (hcat : ∀ w ∈ As, w.category = 1) (hlk : Cond.methodLink RL ix (tb_Y y) ∈ tb_W) (hH : mj_H D tb_cl σ H) (hS : va_S A s.heap H locs) (hdm : ∀ (a : Nat) (x : va_E), σ.2.2 a = some x → A a) (hA : ∀ q, s.heap.size ≤ q → A q) (hroom : mj_fr (tb ar) y + 1 ≤ R.frames ∧ 8 + (mj_mL (tb ar) y + 11) + mj_lo (tb ar) y ≤ R.locals) (hls : ls.size = nL) (hrest : 2 * 0 + (rest.map fun v => v.category).sum ≤ 8) (hdg : decode cc pc = .ok (.invokespecial ix, 3)) (hf : cells + (σ1.1 - σ.1) ≤ R.cells ∧ slots + (σ1.2.1 - σ.2.1) ≤ R.slots)
    (kk : ∀ (H1 : Heap) (locs1 : List Loc), mj_H D tb_cl σ1 H1 → va_S A s.heap H1 locs1 → H.size ≤ H1.size → (∀ q : Nat, q < H.size → ¬ mj_A σ q → H1[q]? = H[q]?) → W p l e R s m args below meth c H1 locs1 (cells + (σ1.1 - σ.1)) (slots + (σ1.2.1 - σ.2.1)) Q (F0 m (pc + 3) ls (v.toList ++ rest))) : W p l e R s m args below meth c H locs cells slots Q (F0 m pc ls (As.reverse ++ .ref b :: rest)) := by
  obtain ⟨hx, hb, hml, hown, hts, hK, hKA, hNs⟩ := C
  obtain ⟨n, hX⟩ := hr
  have hok := tb_ok ar
  have hM := tb_okM ar
  have hY := oy_all ar y hy
  have hca : ∀ w ∈ Value.ref b :: As, w.category = 1 := fun w hw => by
    rcases List.mem_cons.mp hw with rfl | hw
    · rfl
    · exact hcat w hw
  have hMet : mj_Met l (tb ar) D tb_cl tb_W tb_N tb_R tb_Y y (.ref b :: As) σ v σ1 := mj_met_of hok hY hca hal (mj_sound hok hM n y _ v σ1 hX)
  have hG := lw_G hY
  obtain ⟨y1, y2, y3, y4, y5, y6, y7, y8⟩ := hY
  obtain ⟨w1, w2, w3, w4⟩ := y8 hkd
  have hw : mj_ws (tb ar) tb_W tb_Y y = Cond.code (tb_Y y) (mj_cc (tb ar) y) (mj_mL (tb ar) y) none :: tb_W := by rw [← w3]; rfl
  have hPre : ∀ U : State, U.heap = H → s.WarmedH U.vm → mj_Pc (tb ar) D tb_cl tb_N tb_R σ (.ref b :: As) (Value.ref b :: As).toArray U := fun U hU hW => ⟨rfl, by rw [hU]; exact hH, va_K.moved hW.alike hK, mj_KA.moved hW.alike hKA, hNs.warm hM.2.1 hW⟩
  have hgo := va_runI (b := b) (As := As) (rest := rest) (g := F0 m pc ls (As.reverse ++ .ref b :: rest)) (e := e) (below := below) (meth := meth) (locs := locs) (cells := cells) (slots := slots) ⟨hx, hb, hml, hown, hts⟩ hMet ⟨callB_of (mj_na (tb ar) y - 1) hts hG hw rfl rfl (hts _ y2) (hts _ hlk) ⟨y4.1, y4.2, w4⟩ hroom, w1, hts _ w2⟩ ⟨mj_blind hM.2.1, hPre⟩ rfl hn hls rfl hrest hdg hf
  have hfr := lw_free hS hH hdm hA
  exact mj_retK hgo hS (fun q _ hq => hfr q hq) hfr kk
theorem lw_blindX {as : List Value} : FrameBlind (mj_PcX (tb ar) D tb_cl tb_N tb_S tb_R σ as) := by
  intro a U g mk q
  exact ⟨mj_blind (tb_okM ar).2.1 a U g mk q.1, mj_XP.same (u := U) (U := U.calling g mk a) rfl q.2⟩
/-- a virtual call that throws -/
theorem lw_X {E : String} (hlt : l.stackTraces = false) (C : lw_C p s m args c cc nL ar D) (hr : mj_R (tb ar) y (mj_en (tb ar) y (.ref b :: As) σ) (.inr E, σ1)) (hy : y < 138) (hkd : mj_kd (tb ar) y = 0) (hn : As.length = mj_na (tb ar) y - 1) (hal : (Value.ref b :: As).length ≤ mj_mL (tb ar) y) (hcat : ∀ w ∈ As, w.category = 1) (hlk : Cond.methodLink RL ix (tb_Y y) ∈ tb_W) (hb1 : σ.2.2 b = some (.inr (mj_o (tb ar) y, fs))) (hH : mj_H D tb_cl σ H) (hXP : mj_XP tb_S (mj_A σ) s H) (hS : va_S A s.heap H locs) (hdm : ∀ (a : Nat) (x : va_E), σ.2.2 a = some x → A a) (hA : ∀ q, s.heap.size ≤ q → A q) (hroom : mj_fr (tb ar) y + 1 ≤ R.frames ∧ 8 + (mj_mL (tb ar) y + 11) + mj_lo (tb ar) y ≤ R.locals) (hls : ls.size = nL) (hrest : 2 * 0 + (rest.map fun v => v.category).sum ≤ 8) (hdg : decode cc pc = .ok (.invokevirtual ix, 3)) (hf : cells + (σ1.1 - σ.1 + 1) ≤ R.cells ∧ slots + (σ1.2.1 - σ.2.1 + 6) ≤ R.slots)
    (kx : ∀ (H1 : Heap) (locs1 : List Loc) (ce : Cell) (q9 : Addr), (∀ (a : Nat) (x : va_E), σ1.2.2 a = some x → va_at D tb_cl (a, x) H1) → va_S A s.heap H1 locs1 → H.size ≤ H1.size → (∀ q : Nat, q < H.size → ¬ mj_A σ q → H1[q]? = H[q]?) → H1[q9]? = some ce → ce.vm = .none → s.vm.findClass E = some ce.cls → vx_W p l e R s m args below meth c H1 locs1 (cells + (σ1.1 - σ.1 + 1)) (slots + (σ1.2.1 - σ.2.1 + 6)) Q (F0 m pc ls rest) q9) : W p l e R s m args below meth c H locs cells slots Q (F0 m pc ls (As.reverse ++ .ref b :: rest)) := by
  obtain ⟨hx, hb, hml, hown, hts, hK, hKA, hNs⟩ := C
  obtain ⟨n, hX⟩ := hr
  have hok := tb_ok ar
  have hM := tb_okM ar
  have hY := oy_all ar y hy
  have hca : ∀ w ∈ Value.ref b :: As, w.category = 1 := fun w hw => by
    rcases List.mem_cons.mp hw with rfl | hw
    · rfl
    · exact hcat w hw
  have hMet : mj_MetX l (tb ar) D tb_cl tb_W tb_N tb_S tb_R tb_Y y (.ref b :: As) σ E σ1 := mj_metX_of hok hY hca hal (mj_soundX hlt hok hM (tb_okX ar) (tb_okV ar) n y _ E σ1 hX)
  have hG := lw_G hY
  obtain ⟨y1, y2, y3, y4, y5, y6, y7, y8⟩ := hY
  obtain ⟨w1, w2, w3⟩ := y6 hkd
  have hPre : ∀ U : State, U.heap = H → s.WarmedH U.vm → mj_PcX (tb ar) D tb_cl tb_N tb_S tb_R σ (.ref b :: As) (Value.ref b :: As).toArray U := fun U hU hW => ⟨⟨rfl, by rw [hU]; exact hH, va_K.moved hW.alike hK, mj_KA.moved hW.alike hKA, hNs.warm hM.2.1 hW⟩, by rw [hU]; exact hXP.warm hW⟩
  have hgo := vx_runV (C := tb_R (mj_o (tb ar) y)) (b := b) (As := As) (rest := rest) (g := F0 m pc ls (As.reverse ++ .ref b :: rest)) (e := e) (below := below) (meth := meth) (locs := locs) (cells := cells) (slots := slots) ⟨hx, hb, hml, hown, hts⟩ hMet ⟨callB_of (mj_na (tb ar) y - 1) hts hG rfl rfl rfl (hts _ y2) (hts _ hlk) ⟨y4.1, y4.2, w3⟩ hroom, hts _ w1, hts _ w2⟩ ⟨lw_blindX, mj_recvr hok hK hH hb1, hPre⟩ rfl hn hls rfl hrest hdg hf
  have hfr := lw_free hS hH hdm hA
  intro T hT X
  rcases hgo T hT X with ⟨v, st₀, t, T', L, h0, X', hL, e1, e2, hq, st⟩ | ⟨q, st₀, t, T', L, E', ce, h0, X', hL, e1, e2, ⟨rfl, hcell, hsz, hF⟩, hce, hcv, hcl, st⟩
  · exact hq.elim
  · obtain ⟨k1, k2, k3⟩ := vx_keep h0 e1 hS (fun q _ hq => hfr q hq) hfr hL hF
    obtain ⟨t2, a1, b1⟩ := kx T'.heap (locs ++ L) ce q (fun a x hx => by rw [e1]; exact hcell a x hx) k3 k1 k2 (by rw [e1]; exact hce) hcv hcl T' rfl X'
    exact ⟨t2, st.trans a1, b1⟩
end LWA
