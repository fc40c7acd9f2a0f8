section LC
variable {l : Launch} {b L : Nat} {xs : Nat → Int32}
/-- cell(script, 0) -/
def ce_v (L : Nat) (xs : Nat → Int32) : Int32 := if L = 0 then 0 else xs 0
def ce_ws : List Cond := [Cond.code yL_cell cL_cell 2 (some .int)]
def ce_rm : Room := { frames := 1, cells := 0, slots := 0, locals := 50 }
def ce_Pc (b L : Nat) (xs : Nat → Int32) : Array Value → State → Prop := fun a U => a = #[Value.ref b, Value.int 0] ∧ va_X b L xs U U.heap
def ce_Qc (v : Int32) : Array Value → State → Outcome → State → Prop := fun _ st o t => o = .returned (some (.int v)) ∧ t.heap = st.heap
def ce_f : Addr → Prop := fun _ => False
theorem L_cell (hL : L ≤ 2049) : Met l yL_cell ce_ws ce_rm (ce_Pc b L xs) (ce_Qc (ce_v L xs)) 0 0 ce_f := by
  refine Met.ofW (cc := cL_cell) (maxL := 2) (ret := some .int) (ws' := []) (by decide) rfl ?_
  intro p e s m args below meth c s₁ B hml hv
  obtain ⟨rfl, hX⟩ := hv
  have hx := B.exec
  have hb := B.bytes
  have hret := B.returns
  have hlocks := B.notSynchronized
  have hbl : b < s.heap.size := by
    obtain ⟨scr, h1, -⟩ := hX
    exact (Array.getElem?_eq_some_iff.mp h1).1
  have hS : va_S (fun _ => False) s.heap s.heap [] := va_S.rf
  have hl := lv_entry ([.ref b, .int 0]) (n := 2) (Nat.le_of_ble_eq_true rfl)
  show W p l e _ s m #[Value.ref b, Value.int 0] below meth c s.heap [] 0 0 _ (entryFrame m ([Value.ref b, Value.int 0] : List Value).toArray 2)
  rw [lg_entry_eq]
  generalize (lg_sl ([.ref b, .int 0]) ++ List.replicate (2 - (lg_sl ([.ref b, .int 0])).length) Slot.unset).toArray = ls at hl ⊢
  have hl : lv_has ls 2 [(0, .ref b), (1, .int 0)] := hl
  have hend : ∀ v : Int32, v = ce_v L xs → W p l e (headSpec ce_ws ce_rm).room s m #[Value.ref b, Value.int 0] below meth c s.heap [] 0 0 (MQ below (ce_Qc (ce_v L xs)) #[Value.ref b, Value.int 0] s 0 0 ce_f) (F0 m 13 ls [.int v]) := by
    rintro v rfl
    exact W.iret (v := ce_v L xs) hx hb hret (fun t ht hW => ⟨rfl, ht⟩) (fun q hq => by cases hq) dL_cell_13
  refine lv_iload_n hx hb dL_cell_0 rfl (lv_at hl 1 rfl) ?_
  refine lv_aload_n hx hb dL_cell_1 rfl (lv_at hl 0 rfl) ?_
  refine va_slen hx hb hX hbl (fun q => q) hS dL_cell_2 ?_
  by_cases h0 : L = 0
  · subst h0
    refine lv_icmp_ge (tgt := 12) hx hb dL_cell_3 (by decide) (fun _ => ?_) (fun h => absurd (show Int32.ofNat 0 ≤ 0 by decide) h)
    refine lv_iconst (v := 0) hx hb dL_cell_12 (by decide) ?_
    exact hend 0 rfl
  · refine lv_icmp_ge (tgt := 12) hx hb dL_cell_3 (by decide) (fun h => absurd h ?_) (fun _ => ?_)
    · exact nI_ge (a := 0) (b := L) (by omega) (by omega)
    · refine lv_aload_n hx hb dL_cell_6 rfl (lv_at hl 0 rfl) ?_
      refine lv_iload_n hx hb dL_cell_7 rfl (lv_at hl 1 rfl) ?_
      refine va_sld hx hb hX hbl (fun q => q) hS (i := 0) (fun h => h.elim (fun h => absurd h (by decide)) (fun h => h0 (Nat.le_zero.mp h))) dL_cell_8 ?_
      refine lv_goto (tgt := 13) hx hb dL_cell_9 (by decide) ?_
      exact hend _ (by unfold ce_v; rw [if_neg h0]; rfl)
end LC
section LN
variable {p : Program} {l : Launch} {e : Env} {R : Room} {s : State} {m : MethodId} {below : List Frame} {meth : Method} {c : Code} {H : Heap} {locs : List Loc} {cells slots : Nat} {Q : State → Prop} {ls : Array Slot} {pc : Nat} {ar : Nat → ClassId} {D : va_G} {b L : Nat} {cL : ClassId} {xs : Nat → Int32} {rest : List Value}
theorem ce_G : GoodIn lw_tbl (va_wsS RL 55 yL_cell ce_ws) := by
  intro w hw
  unfold va_wsS ce_ws at hw
  simp only [List.cons_append, List.nil_append, List.mem_cons, List.not_mem_nil, or_false] at hw
  rcases hw with rfl | rfl | rfl | rfl
  · exact ⟨by decide +kernel, Or.inl rfl⟩
  · exact ⟨by decide +kernel, Or.inl rfl⟩
  · exact ⟨by decide +kernel, Or.inl rfl⟩
  · exact ⟨by decide +kernel, Or.inl rfl⟩
theorem lw_cell (X : lb_X p l s m meth c b L xs ar D cL) (hL : L ≤ 2049) (hS : va_S (lb_A s) s.heap H locs) (hroom : 2 ≤ R.frames ∧ 71 ≤ R.locals) (hls : ls.size = 7) (hrest : 2 * 0 + (rest.map fun v => v.category).sum ≤ 8) (hdg : decode cL_law pc = .ok (.invokestatic 55, 3)) (hf : cells ≤ R.cells ∧ slots ≤ R.slots) (kk : W p l e R s m #[Value.ref b] below meth c H locs cells slots Q (F0 m (pc + 3) ls (.int (ce_v L xs) :: rest))) : W p l e R s m #[Value.ref b] below meth c H locs cells slots Q (F0 m pc ls (.int 0 :: .ref b :: rest)) := by
  obtain ⟨⟨hx, hb, hml, hown, htw, hKc, hKA, hNs⟩, -, -, hX, hbl, hts, -⟩ := X
  have hX1 : va_X b L xs s H := hX.kept (hS.2.1 b hbl (lb_nA hbl))
  have hgo := va_runS (As := [.ref b, .int 0]) (rest := rest) (g := F0 m pc ls (.int 0 :: .ref b :: rest)) (e := e) (R := R) (below := below) (meth := meth) (locs := locs) (cells := cells) (slots := slots) (H := H) ⟨hx, hb, hml, hown, hts⟩ (L_cell (l := l) (b := b) (xs := xs) hL) (va_cwS 2 hts ce_G rfl rfl rfl ⟨by decide, by decide, by decide⟩ ⟨hroom.1, hroom.2⟩) ⟨fun a U g mk q => ⟨q.1, va_X.moved (u := U) (U := U.calling g mk a) (Vm.Alike.refl U.vm) q.2⟩, fun U hU hW => ⟨rfl, by rw [hU]; exact va_X.moved hW.alike hX1⟩⟩ rfl rfl hls rfl hrest hdg ⟨by omega, by omega⟩
  intro T hT Xt
  obtain ⟨v', st₀, t, T', L', h0, X', hL', e1, e2, ⟨hv, hh⟩, st⟩ := hgo T hT Xt
  cases hv
  have hn : L' = [] := by
    cases L' with
    | nil => rfl
    | cons q r => exact (hL' q List.mem_cons_self).elim
  subst hn
  rw [List.append_nil] at X'
  obtain ⟨t2, a1, b1⟩ := kk T' (by rw [e1, hh, h0]) X'
  exact ⟨t2, st t2 a1, b1⟩
theorem lw_new {ix ci N : Nat} {T : u_T} (X : lb_X p l s m meth c b L xs ar D cL) (hc : tb_cl[ci]? = some (tb_R ci, T, N)) (hN : (mj_ty (tb ar) ci).length = N) (hlk : Cond.classLink RL ix (tb_R ci) ∈ lw_tbl) (hins : Cond.instantiable (tb_R ci) N ∈ lw_tbl) (hini : Cond.initialized (tb_R ci) ∈ lw_tbl) (hdg : decode cL_law pc = .ok (.new ix, 3)) (hr1 : cells + 1 ≤ R.cells) (hr2 : slots + N ≤ R.slots) (hS : va_S (lb_A s) s.heap H locs)
    (kk : ∀ H1 : Heap, mj_H D tb_cl (mj_add (H.size, 0, fun _ => none) N (.inr (ci, (mj_ty (tb ar) ci).map defaultValue))) H1 → va_S (lb_A s) s.heap H1 locs → H1.size = H.size + 1 → (∀ q : Nat, q < H.size → H1[q]? = H[q]?) → W p l e R s m #[Value.ref b] below meth c H1 locs (cells + 1) (slots + N) Q (F0 m (pc + 3) ls (.ref H.size :: rest))) : W p l e R s m #[Value.ref b] below meth c H locs cells slots Q (F0 m pc ls rest) := by
  obtain ⟨⟨hx, hb, hml, hown, htw, hK, hKA, hNs⟩, -, -, -, -, hts, -⟩ := X
  obtain ⟨-, -, hin2, hpd, hnm⟩ := (tb_ok ar).2.1 _ _ hc
  dsimp only at hin2 hpd hnm
  have hpd2 : ∀ i, i < N → parseFieldDescriptor (T i).2.2.1 = some ((mj_ty (tb ar) ci).getD i .int) := by
    intro i hi
    rw [hpd i hi, List.getD_eq_getElem?_getD, List.getElem?_eq_getElem (by omega)]
    rfl
  have hKn := hK.1 ci _ hc
  refine W.newcK hx hb hown (hts _ hlk) (hts _ hins) (hts _ hini) rfl hdg hr1 hr2 hKn.2.1 (h := H.size) rfl fun H1 kC hkC e1 z1 o1 => ?_
  refine kk H1 ((show mj_H D tb_cl (H.size, 0, fun _ => none) H from ⟨rfl, fun a e h => by cases h⟩).add (n := N) (x := .inr (ci, (mj_ty (tb ar) ci).map defaultValue)) (by
    refine ⟨_, hc, (u_born _ htw hin2 hKn hkC e1 hpd2).to (fun i hi => ?_)⟩
    have hi2 : i < (mj_ty (tb ar) ci).length := by rw [hN]; exact hi
    simp [vp_V, List.getD_eq_getElem?_getD, List.getElem?_eq_getElem hi2]) z1 o1) (mj_newS hS z1 o1) z1 o1
end LN
