section LB
variable {p : Program} {l : Launch} {e : Env} {R : Room} {s : State} {m : MethodId} {below : List Frame} {meth : Method} {c : Code} {H : Heap} {locs : List Loc} {cells slots : Nat} {Q : State → Prop} {ls : Array Slot} {pc : Nat} {ar : Nat → ClassId} {D : va_G} {σ : mj_S} {b a B o n : Nat} {cL : ClassId} {xs : Nat → Int32} {rest : List Value} {s0 s' : rs_S}
/-- the cells that the law may write: those that it made -/
def lb_A (s : State) : Nat → Prop := fun q => s.heap.size ≤ q
/-- what stands all through the law's body -/
def lb_X (p : Program) (l : Launch) (s : State) (m : MethodId) (meth : Method) (c : Code) (b L : Nat) (xs : Nat → Int32) (ar : Nat → ClassId) (D : va_G) (cL : ClassId) : Prop :=
  lw_C p s m #[Value.ref b] c cL_law 7 ar D ∧ meth.sig.returnType = ret ∧ meth.locks = false ∧ va_X b L xs s s.heap ∧ b < s.heap.size ∧ (∀ w ∈ lw_tbl, w.before #[Value.ref b] s = true) ∧ mj_XP tb_S (lb_A s) s s.heap ∧ wr_Nc s ∧ ArrOfT s cL .long ∧ l.stackTraces = false
/-- the heap: the reference's object at B, its state s0; the array at o -/
def lb_Z (s : State) (ar : Nat → ClassId) (D : va_G) (B o : Nat) (s0 : rs_S) (H : Heap) (locs : List Loc) : Prop := va_S (lb_A s) s.heap H locs ∧ s.heap.size ≤ B ∧ mj_H D tb_cl (rs_st ar B H.size 0 s0) H ∧ B + 36 < o ∧ o < H.size
/-- and the class's object, its cells below B -/
def lb_Y (s : State) (ar : Nat → ClassId) (D : va_G) (cL : ClassId) (B o : Nat) (s0 : rs_S) (σ : mj_S) (H : Heap) (locs : List Loc) : Prop := lb_Z s ar D B o s0 H locs ∧ mj_H D tb_cl σ H ∧ (∀ (q : Nat) (x : va_E), σ.2.2 q = some x → s.heap.size ≤ q ∧ ¬ (B ≤ q ∧ q ≤ B + 36) ∧ ¬ q = o) ∧ ∃ f, H[o]? = some (arrV cL 1 f)
theorem rs_dom {z q k : Nat} {x : va_E} (h : (rs_st ar B z q s0).2.2 k = some x) : B ≤ k ∧ k ≤ B + 36 := by
  have h1 : (if k < B then none else rs_c ar B s0 (k - B)) = some x := h
  by_cases hB : k < B
  · rw [if_pos hB] at h1
    cases h1
  · rw [if_neg hB] at h1
    refine ⟨by omega, Nat.not_lt.mp fun hlt => ?_⟩
    obtain ⟨j, hj⟩ : ∃ j, k - B = j + 37 := ⟨k - B - 37, by omega⟩
    rw [hj] at h1
    simp [rs_c, rs_ar] at h1
theorem lb_keep {A1 : Nat → Prop} {H1 : Heap} (hR : mj_H D tb_cl (rs_st ar B H.size 0 s0) H) (hk : ∀ q : Nat, q < H.size → ¬ A1 q → H1[q]? = H[q]?) (hA : ∀ q, B ≤ q → q ≤ B + 36 → q < H.size → ¬ A1 q) : mj_H D tb_cl (rs_st ar B H1.size 0 s0) H1 := by
  refine ⟨rfl, fun k x hx => ?_⟩
  have h1 := hR.2 k x hx
  have h2 : k < H.size := h1.lt
  have h3 := rs_dom hx
  exact h1.kept (hk k h2 (hA k h3.1 h3.2 h2))
theorem wr_blind {as : List Value} : FrameBlind (wr_Pc ar D cL σ as o) := by
  intro a U g mk q
  obtain ⟨q1, q2, q3, q4, q5, q6, q7⟩ := q
  exact ⟨q1, q2, q3, va_K.moved (u := U) (U := U.calling g mk a) (Vm.Alike.refl U.vm) q4, mj_KA.moved (u := U) (U := U.calling g mk a) (Vm.Alike.refl U.vm) q5, mj_N.same (u := U) (U := U.calling g mk a) (tb_okM ar).2.1 rfl q6, arrOfT_moved (u := U) (E := U.calling g mk a) (Vm.Alike.refl U.vm) q7⟩
theorem wr_blindX {as : List Value} : FrameBlind (wr_Px ar D cL σ as o) := by
  intro a U g mk q
  obtain ⟨q1, q2, q3, q4, q5⟩ := q
  exact ⟨wr_blind a U g mk q1, mj_XP.same (u := U) (U := U.calling g mk a) rfl q2, va_Nc.moved (u := U) (U := U.calling g mk a) (Vm.Alike.refl U.vm) q3, va_Nc.moved (u := U) (U := U.calling g mk a) (Vm.Alike.refl U.vm) q4, va_Nc.moved (u := U) (U := U.calling g mk a) (Vm.Alike.refl U.vm) q5⟩
theorem wr_G {y : MethodName} {cc1 : ByteArray} {n1 ix : Nat} {hh : List (Nat × Nat × Nat × Nat)} (h1 : Cond.methodLink RL ix y ∈ lw_tbl) (h2 : Cond.static y ∈ lw_tbl) (h3 : Cond.initialized y.cls ∈ lw_tbl) (h4 : Cond.codeWith y cc1 n1 (some .int) hh ∈ lw_tbl) : GoodIn lw_tbl (va_wsS RL ix y (wr_ws y cc1 n1 hh)) := by
  have hM := tb_okM (fun _ => 0)
  intro w hw
  unfold va_wsS wr_ws at hw
  simp only [List.cons_append, List.nil_append, List.mem_cons] at hw
  rcases hw with rfl | rfl | rfl | rfl | hw
  · exact ⟨h1, Or.inl rfl⟩
  · exact ⟨h2, Or.inl rfl⟩
  · exact ⟨h3, Or.inl rfl⟩
  · exact ⟨h4, Or.inl rfl⟩
  · exact ⟨(List.mem_filter.mp hw).1, good_of_word (hM.1 _ hw)⟩
/-- a wrapper's call from the law -/
theorem lw_S {y : MethodName} {cc1 : ByteArray} {L n1 kc mc ms ix na : Nat} {hh : List (Nat × Nat × Nat × Nat)} {Pc : Array Value → State → Prop} {k : Int32} {K : Heap → Prop} {as : List Value} (X : lb_X p l s m meth c b L xs ar D cL) (Y : lb_Y s ar D cL B o s0 σ H locs) (hM : vx_Met l y (wr_ws y cc1 n1 hh) (wr_rm ar kc mc ms) Pc (wr_Q σ o k K) wr_No mc ms (wr_A σ o)) (hfb : FrameBlind Pc) (hPc : ∀ (a : Array Value) (U : State), wr_Px ar D cL σ as o a U → Pc a U) (hG : GoodIn lw_tbl (va_wsS RL ix y (wr_ws y cc1 n1 hh))) (hd : y.cls ≠ "java/lang/invoke/MethodHandle" ∧ y.cls ≠ "java/lang/invoke/VarHandle" ∧ (parseMethodDescriptor y.desc).map (fun d => d.parameters.length) = some na) (hR : mj_fr (tb ar) kc + 1 + 1 ≤ R.frames ∧ 8 + (n1 + 11) + (8 + (mj_mL (tb ar) kc + 11) + mj_lo (tb ar) kc) ≤ R.locals) (hn : as.length = na) (hls : ls.size = 7) (hrest : 2 * 0 + (rest.map fun v => v.category).sum ≤ 8) (hdg : decode cL_law pc = .ok (.invokestatic ix, 3)) (hf : cells + mc ≤ R.cells ∧ slots + ms ≤ R.slots)
    (kk : ∀ (H1 : Heap) (locs1 : List Loc), lb_Z s ar D B o s0 H1 locs1 → K H1 → H.size ≤ H1.size → W p l e R s m #[Value.ref b] below meth c H1 locs1 (cells + mc) (slots + ms) Q (F0 m (pc + 3) ls (.int k :: rest))) : W p l e R s m #[Value.ref b] below meth c H locs cells slots Q (F0 m pc ls (as.reverse ++ rest)) := by
  obtain ⟨⟨hx, hb, hml, hown, htw, hKc, hKA, hNs⟩, -, -, -, -, hts, hXP0, hNc, hLo, -⟩ := X
  obtain ⟨⟨hS, hsB, hRf, ho1, ho2⟩, hH, hdom, f, hof⟩ := Y
  have hM2 := (tb_okM ar).2.1
  have hA : ∀ q, wr_A σ o q → lb_A s q := by
    intro q hq
    rcases hq with (⟨x, hx⟩ | hq) | rfl
    · exact (hdom q x hx).1
    · exact Nat.le_trans hS.1 (by rw [← hH.1]; exact hq)
    · show s.heap.size ≤ q
      omega
  have hXP : mj_XP tb_S (mj_A σ) s H := hXP0.kept (fun a h1 h2 => hS.2.1 a h1 h2) (fun q hq => hA q (Or.inl hq))
  have hPre : PreS s H Pc as := ⟨hfb, fun U hU hW => hPc _ _ ⟨⟨rfl, by rw [hU]; exact hH, ⟨f, by rw [hU]; exact hof⟩, va_K.moved hW.alike hKc, mj_KA.moved hW.alike hKA, hNs.warm hM2 hW, arrOfT_moved hW.alike hLo⟩, by rw [hU]; exact hXP.warm hW, hNc.1.moved hW.alike, hNc.2.1.moved hW.alike, hNc.2.2.moved hW.alike⟩⟩
  have hgo := vx_runSX (As := as) (rest := rest) (g := F0 m pc ls (as.reverse ++ rest)) (e := e) (below := below) (meth := meth) (locs := locs) (cells := cells) (slots := slots) ⟨hx, hb, hml, hown, hts⟩ hM (vx_cwSW na hts hG rfl rfl rfl hd hR) hPre rfl hn hls rfl hrest hdg hf
  intro T hT Xt
  rcases hgo T hT Xt with ⟨v, st₀, t, T', L, h0, X', hL, e1, e2, ⟨hv, hKt, hF⟩, st⟩ | ⟨q, st₀, t, T', L, E', ce, h0, X', hL, e1, e2, hno, -⟩
  · cases hv
    obtain ⟨k1, k2, k3⟩ := vx_keep h0 e1 hS (fun q _ hq => hA q hq) hA hL hF
    have hR2 := lb_keep hRf k2 (fun q h1 h2 h3 hq => by
      rcases hq with (⟨x, hx⟩ | hq) | rfl
      · exact (hdom q x hx).2.1 ⟨h1, h2⟩
      · rw [hH.1] at hq; omega
      · omega)
    obtain ⟨t2, a1, b1⟩ := kk T'.heap (locs ++ L) ⟨k3, hsB, hR2, ho1, by omega⟩ (by rw [e1]; exact hKt) k1 T' rfl X'
    exact ⟨t2, st t2 a1, b1⟩
  · exact hno.elim
/-- the class's cells behind a call of it -/
theorem lb_Yn {H1 : Heap} {locs1 : List Loc} {τ : mj_S} (Y : lb_Y s ar D cL B o s0 σ H locs) (Z : lb_Z s ar D B o s0 H1 locs1) (hle : mj_le σ τ) (hz : H.size ≤ H1.size) (hK : wr_K2 D cL o τ H1) : lb_Y s ar D cL B o s0 (H1.size, 0, τ.2.2) H1 locs1 := by
  obtain ⟨⟨hS, hsB, hRf, ho1, ho2⟩, hH, hdom, -⟩ := Y
  refine ⟨Z, ⟨rfl, hK.2⟩, fun q x hx => ?_, hK.1⟩
  rcases hle.2.2 q x hx with ⟨y, hy⟩ | hq
  · exact hdom q y hy
  · rw [hH.1] at hq
    have := hS.1
    omega
/-- a call of the reference: the class's cells stay -/
theorem lb_VY {L kr ix : Nat} {As : List Value} {v : Option Value} (X : lb_X p l s m meth c b L xs ar D cL) (Y : lb_Y s ar D cL B o s0 σ H locs) (hr : mj_R (tb ar) kr (mj_en (tb ar) kr (.ref B :: As) (rs_st ar B H.size 0 s0)) (.inl v, rs_st ar B H.size 0 s')) (hy : kr < 138) (hkd : mj_kd (tb ar) kr = 0) (hob : mj_o (tb ar) kr = 10) (hn : As.length = mj_na (tb ar) kr - 1) (hal : As.length + 1 ≤ mj_mL (tb ar) kr) (hcat : ∀ w ∈ As, w.category = 1) (hlk : Cond.methodLink RL ix (tb_Y kr) ∈ tb_W) (hroom : mj_fr (tb ar) kr + 1 ≤ R.frames ∧ 8 + (mj_mL (tb ar) kr + 11) + mj_lo (tb ar) kr ≤ R.locals) (hls : ls.size = 7) (hrest : 2 * 0 + (rest.map fun v => v.category).sum ≤ 8) (hdg : decode cL_law pc = .ok (.invokevirtual ix, 3)) (hf : cells ≤ R.cells ∧ slots ≤ R.slots)
    (kk : ∀ (H1 : Heap) (locs1 : List Loc), lb_Y s ar D cL B o s' σ H1 locs1 → H1[o]? = H[o]? → W p l e R s m #[Value.ref b] below meth c H1 locs1 cells slots Q (F0 m (pc + 3) ls (v.toList ++ rest))) : W p l e R s m #[Value.ref b] below meth c H locs cells slots Q (F0 m pc ls (As.reverse ++ .ref B :: rest)) := by
  obtain ⟨C, -⟩ := X
  obtain ⟨⟨hS, hsB, hRf, ho1, ho2⟩, hH, hdom, f, hof⟩ := Y
  obtain ⟨fs, hb1⟩ : ∃ fs, (rs_st ar B H.size 0 s0).2.2 B = some (.inr (mj_o (tb ar) kr, fs)) := by
    rw [hob]
    show ∃ fs, (if B < B then none else rs_c ar B s0 (B - B)) = _
    rw [if_neg (Nat.lt_irrefl B), Nat.sub_self]
    exact ⟨_, rfl⟩
  have e1 : cells + ((rs_st ar B H.size 0 s').1 - (rs_st ar B H.size 0 s0).1) = cells := by
    show cells + (H.size - H.size) = cells
    omega
  have e2 : slots + ((rs_st ar B H.size 0 s').2.1 - (rs_st ar B H.size 0 s0).2.1) = slots := rfl
  refine lw_V (σ := rs_st ar B H.size 0 s0) (σ1 := rs_st ar B H.size 0 s') (A := lb_A s) C hr hy hkd hn (by rw [List.length_cons]; exact hal) hcat hlk hb1 hRf hS (fun a x h => Nat.le_trans hsB (rs_dom h).1) (fun q h => h) hroom hls hrest hdg ⟨by rw [e1]; exact hf.1, by rw [e2]; exact hf.2⟩ (fun H1 locs1 hH1 hS1 hz hk => ?_)
  rw [e1, e2]
  have hsz : H.size = H1.size := hH1.1
  have hko : H1[o]? = H[o]? := hk o ho2 (fun q => by
    rcases q with ⟨x, hx⟩ | q
    · have := (rs_dom hx).2
      omega
    · have q' : H.size ≤ o := q
      omega)
  refine kk H1 locs1 ⟨⟨hS1, hsB, ⟨rfl, hH1.2⟩, ho1, by omega⟩, ⟨hH.1.trans hsz, fun q x hx => ?_⟩, hdom, ⟨f, by rw [hko]; exact hof⟩⟩ hko
  have h1 := hH.2 q x hx
  refine h1.kept (hk q h1.lt (fun hq => ?_))
  rcases hq with ⟨y, hy⟩ | hq
  · exact (hdom q x hx).2.1 (rs_dom hy)
  · have h2 := h1.lt
    have q' : H.size ≤ q := hq
    omega
/-- a call of the class itself -/
theorem lb_CY {kc ix L : Nat} {τ : mj_S} {v : Option Value} {fs : List Value} (X : lb_X p l s m meth c b L xs ar D cL) (Y : lb_Y s ar D cL B o s0 σ H locs) (hr : mj_R (tb ar) kc (mj_en (tb ar) kc [.ref a] σ) (.inl v, τ)) (hb1 : σ.2.2 a = some (.inr (mj_o (tb ar) kc, fs))) (hy : kc < 138) (hkd : mj_kd (tb ar) kc = 0) (hn : 0 = mj_na (tb ar) kc - 1) (hal : 1 ≤ mj_mL (tb ar) kc) (hlk : Cond.methodLink RL ix (tb_Y kc) ∈ tb_W) (hroom : mj_fr (tb ar) kc + 1 ≤ R.frames ∧ 8 + (mj_mL (tb ar) kc + 11) + mj_lo (tb ar) kc ≤ R.locals) (hls : ls.size = 7) (hrest : 2 * 0 + (rest.map fun v => v.category).sum ≤ 8) (hdg : decode cL_law pc = .ok (.invokevirtual ix, 3)) (hf : cells + (τ.1 - σ.1) ≤ R.cells ∧ slots + (τ.2.1 - σ.2.1) ≤ R.slots)
    (kk : ∀ (H1 : Heap) (locs1 : List Loc), lb_Y s ar D cL B o s0 (H1.size, 0, τ.2.2) H1 locs1 → τ.1 = H1.size → W p l e R s m #[Value.ref b] below meth c H1 locs1 (cells + (τ.1 - σ.1)) (slots + (τ.2.1 - σ.2.1)) Q (F0 m (pc + 3) ls (v.toList ++ rest))) : W p l e R s m #[Value.ref b] below meth c H locs cells slots Q (F0 m pc ls (.ref a :: rest)) := by
  have hle : mj_le σ τ := by
    obtain ⟨n, h⟩ := hr
    exact mj_X_le n kc _ _ h
  obtain ⟨C, -⟩ := X
  have Y0 := Y
  obtain ⟨⟨hS, hsB, hRf, ho1, ho2⟩, hH, hdom, f, hof⟩ := Y
  refine lw_V (As := []) (σ := σ) (σ1 := τ) (A := lb_A s) C hr hy hkd hn hal (fun w hw => by cases hw) hlk hb1 hH hS (fun a x h => (hdom a x h).1) (fun q h => h) hroom hls hrest hdg hf (fun H1 locs1 hH1 hS1 hz hk => ?_)
  have hno : ∀ q, q < H.size → (B ≤ q ∧ q ≤ B + 36) ∨ q = o → ¬ mj_A σ q := fun q hq h hA => by
    rcases hA with ⟨x, hx⟩ | hA
    · rcases h with h | h
      · exact (hdom q x hx).2.1 h
      · exact (hdom q x hx).2.2 h
    · rw [hH.1] at hA
      omega
  refine kk H1 locs1 (lb_Yn Y0 ⟨hS1, hsB, lb_keep hRf hk (fun q h1 h2 h3 => hno q h3 (Or.inl ⟨h1, h2⟩)), ho1, by omega⟩ hle hz ⟨⟨f, by rw [hk o ho2 (hno o ho2 (Or.inr rfl))]; exact hof⟩, hH1.2⟩) hH1.1
end LB
