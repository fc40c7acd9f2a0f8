section WR
variable {l : Launch} {ar : Nat → ClassId} {D : va_G} {cL : ClassId} {σ σ1 : mj_S} {b o : Nat} {v p0 p1 p2 : Int32} {fs : List Value}
/-- a wrapper's words, room, cells that it may change -/
def wr_ws (y : MethodName) (cc : ByteArray) (n : Nat) (hh : List (Nat × Nat × Nat × Nat)) : List Cond := Cond.codeWith y cc n (some .int) hh :: tb_W
def wr_rm (ar : Nat → ClassId) (k mc ms : Nat) : Room := { frames := mj_fr (tb ar) k + 1, cells := mc, slots := ms, locals := 8 + (mj_mL (tb ar) k + 11) + mj_lo (tb ar) k }
def wr_A (σ : mj_S) (o : Nat) : Nat → Prop := fun q => mj_A σ q ∨ q = o
def wr_Pc (ar : Nat → ClassId) (D : va_G) (cL : ClassId) (σ : mj_S) (as : List Value) (o : Nat) : Array Value → State → Prop := fun a U => a = as.toArray ∧ mj_H D tb_cl σ U.heap ∧ (∃ f, U.heap[o]? = some (arrV cL 1 f)) ∧ va_K D tb_cl [] U ∧ mj_KA (tb ar) tb_R U ∧ mj_N tb_N U ∧ ArrOfT U cL .long
def wr_Nc (U : State) : Prop := va_Nc x_ar x_ix U ∧ va_Nc x_st x_ix U ∧ va_Nc x_st x_ar U
def wr_Px (ar : Nat → ClassId) (D : va_G) (cL : ClassId) (σ : mj_S) (as : List Value) (o : Nat) : Array Value → State → Prop := fun a U => wr_Pc ar D cL σ as o a U ∧ mj_XP tb_S (mj_A σ) U U.heap ∧ wr_Nc U
/-- it has returned k, and the heap is as K says -/
def wr_Q (σ : mj_S) (o : Nat) (k : Int32) (K : Heap → Prop) : Array Value → State → Outcome → State → Prop := fun _ st oc t => oc = .returned (some (.int k)) ∧ K t.heap ∧ va_F (wr_A σ o) st t
def wr_K (cL : ClassId) (o : Nat) (x : Int64) : Heap → Prop := fun H => ∃ f, H[o]? = some (arrV cL 1 f) ∧ f 0 = .long x
/-- the array, and the class's cells -/
def wr_K2 (D : va_G) (cL : ClassId) (o : Nat) (τ : mj_S) : Heap → Prop := fun H => (∃ f, H[o]? = some (arrV cL 1 f)) ∧ ∀ (a : Nat) (x : va_E), τ.2.2 a = some x → va_at D tb_cl (a, x) H
def wr_No : String → State → State → Prop := fun _ _ _ => False
theorem wr_dm : ∀ (a : Nat) (x : va_E), σ.2.2 a = some x → wr_A σ o a := fun a x h => Or.inl (Or.inl ⟨x, h⟩)
theorem wr_new {n : Nat} (h : σ.1 = n) : ∀ q, n ≤ q → wr_A σ o q := fun q hq => Or.inl (Or.inr (by omega))

theorem lk_submit : Cond.methodLink RL 7 (tb_Y 42) ∈ tb_W := by decide +kernel
theorem Lr_submit (hr : mj_R (tb ar) 42 (mj_en (tb ar) 42 (.ref b :: [.int p0, .int p1]) σ) (.inl (some (.int v)), σ1)) (hb1 : σ.2.2 b = some (.inr (9, fs))) (ho : ¬ mj_A σ o) (ho2 : ∀ x, ¬ σ1.2.2 o = some x) : vx_Met l yL_submit (wr_ws yL_submit cL_submit 5 [(0, 10, 13, 13), (0, 10, 17, 15), (0, 10, 21, 17)]) (wr_rm ar 42 (σ1.1 - σ.1) (σ1.2.1 - σ.2.1)) (wr_Pc ar D cL σ [.ref b, .int p0, .int p1, .ref o] o) (wr_Q σ o 0 (fun H => wr_K cL o v.toInt64 H ∧ wr_K2 D cL o σ1 H ∧ σ1.1 ≤ H.size)) wr_No (σ1.1 - σ.1) (σ1.2.1 - σ.2.1) (wr_A σ o) := by
  refine vx_ofWH (cc := cL_submit) (maxL := 5) (ret := some .int) (hh := [(0, 10, 13, 13), (0, 10, 17, 15), (0, 10, 21, 17)]) (by decide) rfl ?_
  intro p e s m args below meth c s₁ B hml hv
  obtain ⟨rfl, hH, ⟨f0, hof⟩, hK, hKA, hN, hLo⟩ := hv
  have hts := atoms_spec (ws := wr_ws yL_submit cL_submit 5 [(0, 10, 13, 13), (0, 10, 17, 15), (0, 10, 21, 17)]) B.pre
  have hown : s.vm.findClass RL = some m.cls := findClass_of_methodNamed B.named
  have hx := B.exec
  have hb := B.bytes
  have hret := B.returns
  have hlocks := B.notSynchronized
  have C : lw_C p s m ([.ref b, .int p0, .int p1, .ref o] : List Value).toArray c cL_submit 5 ar D := ⟨hx, hb, hml, hown, fun w hw => hts w (List.mem_cons_of_mem _ hw), hK, hKA, hN⟩
  have hl := lv_entry ([.ref b, .int p0, .int p1, .ref o]) (n := 5) (Nat.le_of_ble_eq_true rfl)
  rw [lg_entry_eq]
  generalize (lg_sl ([.ref b, .int p0, .int p1, .ref o]) ++ List.replicate (5 - (lg_sl ([.ref b, .int p0, .int p1, .ref o])).length) Slot.unset).toArray = ls at hl ⊢
  have hl : lv_has ls 5 [(0, .ref b), (1, .int p0), (2, .int p1), (3, .ref o)] := hl
  have hS : va_S (wr_A σ o) s.heap s.heap [] := va_S.rf
  refine lv_aload_n hx hb dL_submit_0 rfl (lv_at hl 3 rfl) ?_
  refine lv_iconst (v := 0) hx hb dL_submit_1 (by decide) ?_
  refine lv_aload_n hx hb dL_submit_2 rfl (lv_at hl 0 rfl) ?_
  refine lv_iload_n hx hb dL_submit_3 rfl (lv_at hl 1 rfl) ?_
  refine lv_iload_n hx hb dL_submit_4 rfl (lv_at hl 2 rfl) ?_
  refine lw_V (As := [.int p0, .int p1]) (rest := [.int 0, .ref o]) C hr (by decide) rfl rfl (show 3 ≤ mj_mL (tb ar) 42 from Nat.le_of_ble_eq_true rfl) (fun w hw => by simp only [List.mem_cons, List.not_mem_nil, or_false] at hw; rcases hw with rfl | rfl <;> rfl) lk_submit hb1 hH hS wr_dm (wr_new hH.1) ⟨Nat.le_refl _, Nat.le_refl _⟩ hl.1 (Nat.le_of_ble_eq_true rfl) dL_submit_5 ⟨Nat.le_of_eq (Nat.zero_add _), Nat.le_of_eq (Nat.zero_add _)⟩ (fun H1 locs1 hH1 hS1 hz hk => ?_)
  rw [Nat.zero_add, Nat.zero_add]
  refine lv_i2l (v := v.toInt64) hx hb dL_submit_8 rfl ?_
  have hlt : o < s.heap.size := by
    rw [← hH.1]
    exact Nat.not_le.mp (fun q => ho (Or.inr q))
  have ho1 : H1[o]? = some (arrV cL 1 f0) := by rw [hk o hlt ho]; exact hof
  refine W.last hx hb ho1 (hLo 1 f0) (fun q => by cases q) (by show ¬ ((0 : Int32) < 0 ∨ (arrV _ _ _).slots.size ≤ _); rw [arrV_size]; decide) rfl rfl dL_submit_9 (fun H2 e2 z2 o2 => ?_)
  have hS2 := hS1.put (k := Int32.toNatClampNeg 0) z2 o2 (show wr_A σ o o from Or.inr rfl)
  refine lv_goto (tgt := 25) hx hb dL_submit_10 rfl ?_
  refine lv_iconst (v := 0) hx hb dL_submit_25 (by decide) ?_
  refine vx_ret ?_
  exact W.iret (v := 0) hx hb hret (fun t ht hW => ⟨rfl, ⟨⟨_, by rw [ht, e2, arrV_store], rfl⟩, ⟨⟨_, by rw [ht, e2, arrV_store]⟩, fun a x hx => by rw [ht]; exact (hH1.2 a x hx).kept (o2 a (fun e => ho2 x (e ▸ hx)))⟩, by rw [ht, z2, ← hH1.1]; exact Nat.le_refl _⟩, hS2.F ht⟩) hS2.2.2 dL_submit_26
theorem Lx_submit_x_ix (hlt : l.stackTraces = false) (hr : mj_R (tb ar) 42 (mj_en (tb ar) 42 (.ref b :: [.int p0, .int p1]) σ) (.inr x_ix, σ1)) (hb1 : σ.2.2 b = some (.inr (9, fs))) (ho : ¬ mj_A σ o) : vx_Met l yL_submit (wr_ws yL_submit cL_submit 5 [(0, 10, 13, 13), (0, 10, 17, 15), (0, 10, 21, 17)]) (wr_rm ar 42 (σ1.1 - σ.1 + 1) (σ1.2.1 - σ.2.1 + 6)) (wr_Px ar D cL σ [.ref b, .int p0, .int p1, .ref o] o) (wr_Q σ o 1 (wr_K2 D cL o σ1)) wr_No (σ1.1 - σ.1 + 1) (σ1.2.1 - σ.2.1 + 6) (wr_A σ o) := by
  refine vx_ofWH (cc := cL_submit) (maxL := 5) (ret := some .int) (hh := [(0, 10, 13, 13), (0, 10, 17, 15), (0, 10, 21, 17)]) (by decide) rfl ?_
  intro p e s m args below meth c s₁ B hml hv
  obtain ⟨⟨rfl, hH, ⟨f0, hof⟩, hK, hKA, hN, -⟩, hXP, hNc⟩ := hv
  have hts := atoms_spec (ws := wr_ws yL_submit cL_submit 5 [(0, 10, 13, 13), (0, 10, 17, 15), (0, 10, 21, 17)]) B.pre
  have hown : s.vm.findClass RL = some m.cls := findClass_of_methodNamed B.named
  have hx := B.exec
  have hb := B.bytes
  have hret := B.returns
  have hlocks := B.notSynchronized
  have C : lw_C p s m ([.ref b, .int p0, .int p1, .ref o] : List Value).toArray c cL_submit 5 ar D := ⟨hx, hb, hml, hown, fun w hw => hts w (List.mem_cons_of_mem _ hw), hK, hKA, hN⟩
  have hl := lv_entry ([.ref b, .int p0, .int p1, .ref o]) (n := 5) (Nat.le_of_ble_eq_true rfl)
  rw [lg_entry_eq]
  generalize (lg_sl ([.ref b, .int p0, .int p1, .ref o]) ++ List.replicate (5 - (lg_sl ([.ref b, .int p0, .int p1, .ref o])).length) Slot.unset).toArray = ls at hl ⊢
  have hl : lv_has ls 5 [(0, .ref b), (1, .int p0), (2, .int p1), (3, .ref o)] := hl
  have hS : va_S (wr_A σ o) s.heap s.heap [] := va_S.rf
  refine lv_aload_n hx hb dL_submit_0 rfl (lv_at hl 3 rfl) ?_
  refine lv_iconst (v := 0) hx hb dL_submit_1 (by decide) ?_
  refine lv_aload_n hx hb dL_submit_2 rfl (lv_at hl 0 rfl) ?_
  refine lv_iload_n hx hb dL_submit_3 rfl (lv_at hl 1 rfl) ?_
  refine lv_iload_n hx hb dL_submit_4 rfl (lv_at hl 2 rfl) ?_
  refine lw_X (As := [.int p0, .int p1]) (rest := [.int 0, .ref o]) hlt C hr (by decide) rfl rfl (show 3 ≤ mj_mL (tb ar) 42 from Nat.le_of_ble_eq_true rfl) (fun w hw => by simp only [List.mem_cons, List.not_mem_nil, or_false] at hw; rcases hw with rfl | rfl <;> rfl) lk_submit hb1 hH hXP hS wr_dm (wr_new hH.1) ⟨Nat.le_refl _, Nat.le_refl _⟩ hl.1 (Nat.le_of_ble_eq_true rfl) dL_submit_5 ⟨Nat.le_of_eq (Nat.zero_add _), Nat.le_of_eq (Nat.zero_add _)⟩ (fun H1 locs1 ce q9 hcell hS1 hz hk hce hcv hcl => ?_)
  rw [Nat.zero_add, Nat.zero_add]
  refine vx_catch (own := RL) (name := x_ix) hown [] ⟨0, 10, 13, 13⟩ [⟨0, 10, 17, 15⟩, ⟨0, 10, 21, 17⟩] (by rw [vx_table (x := yL_cell) B (hts _ List.mem_cons_self)]; rfl) (fun z hz => by cases hz) (by decide) (by decide) (hts _ (List.mem_cons_of_mem _ (show Cond.classLink RL 13 x_ix ∈ tb_W by decide +kernel))) (va_tabs rfl rfl (hN (Cond.castable x_ix x_ix) (by decide +kernel))) hce hcv hcl ?_
  refine lv_astore (lv' := (4, .ref q9) :: [(0, .ref b), (1, .int p0), (2, .int p1), (3, .ref o)]) hx hb dL_submit_13 hl (by decide) rfl (fun ls hl => ?_)
  refine lv_iconst (v := 1) hx hb dL_submit_15 (by decide) ?_
  refine vx_ret ?_
  exact W.iret (v := 1) hx hb hret (fun t ht hW => ⟨rfl, ⟨⟨f0, by rw [ht, hk o (by rw [← hH.1]; exact Nat.not_le.mp (fun q => ho (Or.inr q))) ho]; exact hof⟩, fun a x hx => by rw [ht]; exact hcell a x hx⟩, hS1.F ht⟩) hS1.2.2 dL_submit_16
theorem Lx_submit_x_ar (hlt : l.stackTraces = false) (hr : mj_R (tb ar) 42 (mj_en (tb ar) 42 (.ref b :: [.int p0, .int p1]) σ) (.inr x_ar, σ1)) (hb1 : σ.2.2 b = some (.inr (9, fs))) (ho : ¬ mj_A σ o) : vx_Met l yL_submit (wr_ws yL_submit cL_submit 5 [(0, 10, 13, 13), (0, 10, 17, 15), (0, 10, 21, 17)]) (wr_rm ar 42 (σ1.1 - σ.1 + 1) (σ1.2.1 - σ.2.1 + 6)) (wr_Px ar D cL σ [.ref b, .int p0, .int p1, .ref o] o) (wr_Q σ o 2 (wr_K2 D cL o σ1)) wr_No (σ1.1 - σ.1 + 1) (σ1.2.1 - σ.2.1 + 6) (wr_A σ o) := by
  refine vx_ofWH (cc := cL_submit) (maxL := 5) (ret := some .int) (hh := [(0, 10, 13, 13), (0, 10, 17, 15), (0, 10, 21, 17)]) (by decide) rfl ?_
  intro p e s m args below meth c s₁ B hml hv
  obtain ⟨⟨rfl, hH, ⟨f0, hof⟩, hK, hKA, hN, -⟩, hXP, hNc⟩ := hv
  have hts := atoms_spec (ws := wr_ws yL_submit cL_submit 5 [(0, 10, 13, 13), (0, 10, 17, 15), (0, 10, 21, 17)]) B.pre
  have hown : s.vm.findClass RL = some m.cls := findClass_of_methodNamed B.named
  have hx := B.exec
  have hb := B.bytes
  have hret := B.returns
  have hlocks := B.notSynchronized
  have C : lw_C p s m ([.ref b, .int p0, .int p1, .ref o] : List Value).toArray c cL_submit 5 ar D := ⟨hx, hb, hml, hown, fun w hw => hts w (List.mem_cons_of_mem _ hw), hK, hKA, hN⟩
  have hl := lv_entry ([.ref b, .int p0, .int p1, .ref o]) (n := 5) (Nat.le_of_ble_eq_true rfl)
  rw [lg_entry_eq]
  generalize (lg_sl ([.ref b, .int p0, .int p1, .ref o]) ++ List.replicate (5 - (lg_sl ([.ref b, .int p0, .int p1, .ref o])).length) Slot.unset).toArray = ls at hl ⊢
  have hl : lv_has ls 5 [(0, .ref b), (1, .int p0), (2, .int p1), (3, .ref o)] := hl
  have hS : va_S (wr_A σ o) s.heap s.heap [] := va_S.rf
  refine lv_aload_n hx hb dL_submit_0 rfl (lv_at hl 3 rfl) ?_
  refine lv_iconst (v := 0) hx hb dL_submit_1 (by decide) ?_
  refine lv_aload_n hx hb dL_submit_2 rfl (lv_at hl 0 rfl) ?_
  refine lv_iload_n hx hb dL_submit_3 rfl (lv_at hl 1 rfl) ?_
  refine lv_iload_n hx hb dL_submit_4 rfl (lv_at hl 2 rfl) ?_
  refine lw_X (As := [.int p0, .int p1]) (rest := [.int 0, .ref o]) hlt C hr (by decide) rfl rfl (show 3 ≤ mj_mL (tb ar) 42 from Nat.le_of_ble_eq_true rfl) (fun w hw => by simp only [List.mem_cons, List.not_mem_nil, or_false] at hw; rcases hw with rfl | rfl <;> rfl) lk_submit hb1 hH hXP hS wr_dm (wr_new hH.1) ⟨Nat.le_refl _, Nat.le_refl _⟩ hl.1 (Nat.le_of_ble_eq_true rfl) dL_submit_5 ⟨Nat.le_of_eq (Nat.zero_add _), Nat.le_of_eq (Nat.zero_add _)⟩ (fun H1 locs1 ce q9 hcell hS1 hz hk hce hcv hcl => ?_)
  rw [Nat.zero_add, Nat.zero_add]
  refine vx_catch (own := RL) (name := x_ar) hown [⟨0, 10, 13, 13⟩] ⟨0, 10, 17, 15⟩ [⟨0, 10, 21, 17⟩] (by rw [vx_table (x := yL_cell) B (hts _ List.mem_cons_self)]; rfl) (fun z hz => by
    simp only [List.mem_cons, List.not_mem_nil, or_false] at hz
    subst hz
    exact Or.inr ⟨by decide, x_ix, hts _ (List.mem_cons_of_mem _ (show Cond.classLink RL 13 x_ix ∈ tb_W by decide +kernel)), hNc.1⟩) (by decide) (by decide) (hts _ (List.mem_cons_of_mem _ (show Cond.classLink RL 15 x_ar ∈ tb_W by decide +kernel))) (va_tabs rfl rfl (hN (Cond.castable x_ar x_ar) (by decide +kernel))) hce hcv hcl ?_
  refine lv_astore (lv' := (4, .ref q9) :: [(0, .ref b), (1, .int p0), (2, .int p1), (3, .ref o)]) hx hb dL_submit_17 hl (by decide) rfl (fun ls hl => ?_)
  refine lv_iconst (v := 2) hx hb dL_submit_19 (by decide) ?_
  refine vx_ret ?_
  exact W.iret (v := 2) hx hb hret (fun t ht hW => ⟨rfl, ⟨⟨f0, by rw [ht, hk o (by rw [← hH.1]; exact Nat.not_le.mp (fun q => ho (Or.inr q))) ho]; exact hof⟩, fun a x hx => by rw [ht]; exact hcell a x hx⟩, hS1.F ht⟩) hS1.2.2 dL_submit_20
theorem Lx_submit_x_st (hlt : l.stackTraces = false) (hr : mj_R (tb ar) 42 (mj_en (tb ar) 42 (.ref b :: [.int p0, .int p1]) σ) (.inr x_st, σ1)) (hb1 : σ.2.2 b = some (.inr (9, fs))) (ho : ¬ mj_A σ o) : vx_Met l yL_submit (wr_ws yL_submit cL_submit 5 [(0, 10, 13, 13), (0, 10, 17, 15), (0, 10, 21, 17)]) (wr_rm ar 42 (σ1.1 - σ.1 + 1) (σ1.2.1 - σ.2.1 + 6)) (wr_Px ar D cL σ [.ref b, .int p0, .int p1, .ref o] o) (wr_Q σ o 3 (wr_K2 D cL o σ1)) wr_No (σ1.1 - σ.1 + 1) (σ1.2.1 - σ.2.1 + 6) (wr_A σ o) := by
  refine vx_ofWH (cc := cL_submit) (maxL := 5) (ret := some .int) (hh := [(0, 10, 13, 13), (0, 10, 17, 15), (0, 10, 21, 17)]) (by decide) rfl ?_
  intro p e s m args below meth c s₁ B hml hv
  obtain ⟨⟨rfl, hH, ⟨f0, hof⟩, hK, hKA, hN, -⟩, hXP, hNc⟩ := hv
  have hts := atoms_spec (ws := wr_ws yL_submit cL_submit 5 [(0, 10, 13, 13), (0, 10, 17, 15), (0, 10, 21, 17)]) B.pre
  have hown : s.vm.findClass RL = some m.cls := findClass_of_methodNamed B.named
  have hx := B.exec
  have hb := B.bytes
  have hret := B.returns
  have hlocks := B.notSynchronized
  have C : lw_C p s m ([.ref b, .int p0, .int p1, .ref o] : List Value).toArray c cL_submit 5 ar D := ⟨hx, hb, hml, hown, fun w hw => hts w (List.mem_cons_of_mem _ hw), hK, hKA, hN⟩
  have hl := lv_entry ([.ref b, .int p0, .int p1, .ref o]) (n := 5) (Nat.le_of_ble_eq_true rfl)
  rw [lg_entry_eq]
  generalize (lg_sl ([.ref b, .int p0, .int p1, .ref o]) ++ List.replicate (5 - (lg_sl ([.ref b, .int p0, .int p1, .ref o])).length) Slot.unset).toArray = ls at hl ⊢
  have hl : lv_has ls 5 [(0, .ref b), (1, .int p0), (2, .int p1), (3, .ref o)] := hl
  have hS : va_S (wr_A σ o) s.heap s.heap [] := va_S.rf
  refine lv_aload_n hx hb dL_submit_0 rfl (lv_at hl 3 rfl) ?_
  refine lv_iconst (v := 0) hx hb dL_submit_1 (by decide) ?_
  refine lv_aload_n hx hb dL_submit_2 rfl (lv_at hl 0 rfl) ?_
  refine lv_iload_n hx hb dL_submit_3 rfl (lv_at hl 1 rfl) ?_
  refine lv_iload_n hx hb dL_submit_4 rfl (lv_at hl 2 rfl) ?_
  refine lw_X (As := [.int p0, .int p1]) (rest := [.int 0, .ref o]) hlt C hr (by decide) rfl rfl (show 3 ≤ mj_mL (tb ar) 42 from Nat.le_of_ble_eq_true rfl) (fun w hw => by simp only [List.mem_cons, List.not_mem_nil, or_false] at hw; rcases hw with rfl | rfl <;> rfl) lk_submit hb1 hH hXP hS wr_dm (wr_new hH.1) ⟨Nat.le_refl _, Nat.le_refl _⟩ hl.1 (Nat.le_of_ble_eq_true rfl) dL_submit_5 ⟨Nat.le_of_eq (Nat.zero_add _), Nat.le_of_eq (Nat.zero_add _)⟩ (fun H1 locs1 ce q9 hcell hS1 hz hk hce hcv hcl => ?_)
  rw [Nat.zero_add, Nat.zero_add]
  refine vx_catch (own := RL) (name := x_st) hown [⟨0, 10, 13, 13⟩, ⟨0, 10, 17, 15⟩] ⟨0, 10, 21, 17⟩ [] (by rw [vx_table (x := yL_cell) B (hts _ List.mem_cons_self)]; rfl) (fun z hz => by
    simp only [List.mem_cons, List.not_mem_nil, or_false] at hz
    rcases hz with rfl | rfl
    · exact Or.inr ⟨by decide, x_ix, hts _ (List.mem_cons_of_mem _ (show Cond.classLink RL 13 x_ix ∈ tb_W by decide +kernel)), hNc.2.1⟩
    · exact Or.inr ⟨by decide, x_ar, hts _ (List.mem_cons_of_mem _ (show Cond.classLink RL 15 x_ar ∈ tb_W by decide +kernel)), hNc.2.2⟩) (by decide) (by decide) (hts _ (List.mem_cons_of_mem _ (show Cond.classLink RL 17 x_st ∈ tb_W by decide +kernel))) (va_tabs rfl rfl (hN (Cond.castable x_st x_st) (by decide +kernel))) hce hcv hcl ?_
  refine lv_astore (lv' := (4, .ref q9) :: [(0, .ref b), (1, .int p0), (2, .int p1), (3, .ref o)]) hx hb dL_submit_21 hl (by decide) rfl (fun ls hl => ?_)
  refine lv_iconst (v := 3) hx hb dL_submit_23 (by decide) ?_
  refine vx_ret ?_
  exact W.iret (v := 3) hx hb hret (fun t ht hW => ⟨rfl, ⟨⟨f0, by rw [ht, hk o (by rw [← hH.1]; exact Nat.not_le.mp (fun q => ho (Or.inr q))) ho]; exact hof⟩, fun a x hx => by rw [ht]; exact hcell a x hx⟩, hS1.F ht⟩) hS1.2.2 dL_submit_24
theorem lk_campaign : Cond.methodLink RL 19 (tb_Y 43) ∈ tb_W := by decide +kernel
theorem Lr_campaign (hr : mj_R (tb ar) 43 (mj_en (tb ar) 43 (.ref b :: [.int p0]) σ) (.inl (some (.int v)), σ1)) (hb1 : σ.2.2 b = some (.inr (9, fs))) (ho : ¬ mj_A σ o) (ho2 : ∀ x, ¬ σ1.2.2 o = some x) : vx_Met l yL_campaign (wr_ws yL_campaign cL_campaign 4 [(0, 9, 12, 13), (0, 9, 15, 17)]) (wr_rm ar 43 (σ1.1 - σ.1) (σ1.2.1 - σ.2.1)) (wr_Pc ar D cL σ [.ref b, .int p0, .ref o] o) (wr_Q σ o 0 (fun H => wr_K cL o v.toInt64 H ∧ wr_K2 D cL o σ1 H ∧ σ1.1 ≤ H.size)) wr_No (σ1.1 - σ.1) (σ1.2.1 - σ.2.1) (wr_A σ o) := by
  refine vx_ofWH (cc := cL_campaign) (maxL := 4) (ret := some .int) (hh := [(0, 9, 12, 13), (0, 9, 15, 17)]) (by decide) rfl ?_
  intro p e s m args below meth c s₁ B hml hv
  obtain ⟨rfl, hH, ⟨f0, hof⟩, hK, hKA, hN, hLo⟩ := hv
  have hts := atoms_spec (ws := wr_ws yL_campaign cL_campaign 4 [(0, 9, 12, 13), (0, 9, 15, 17)]) B.pre
  have hown : s.vm.findClass RL = some m.cls := findClass_of_methodNamed B.named
  have hx := B.exec
  have hb := B.bytes
  have hret := B.returns
  have hlocks := B.notSynchronized
  have C : lw_C p s m ([.ref b, .int p0, .ref o] : List Value).toArray c cL_campaign 4 ar D := ⟨hx, hb, hml, hown, fun w hw => hts w (List.mem_cons_of_mem _ hw), hK, hKA, hN⟩
  have hl := lv_entry ([.ref b, .int p0, .ref o]) (n := 4) (Nat.le_of_ble_eq_true rfl)
  rw [lg_entry_eq]
  generalize (lg_sl ([.ref b, .int p0, .ref o]) ++ List.replicate (4 - (lg_sl ([.ref b, .int p0, .ref o])).length) Slot.unset).toArray = ls at hl ⊢
  have hl : lv_has ls 4 [(0, .ref b), (1, .int p0), (2, .ref o)] := hl
  have hS : va_S (wr_A σ o) s.heap s.heap [] := va_S.rf
  refine lv_aload_n hx hb dL_campaign_0 rfl (lv_at hl 2 rfl) ?_
  refine lv_iconst (v := 0) hx hb dL_campaign_1 (by decide) ?_
  refine lv_aload_n hx hb dL_campaign_2 rfl (lv_at hl 0 rfl) ?_
  refine lv_iload_n hx hb dL_campaign_3 rfl (lv_at hl 1 rfl) ?_
  refine lw_V (As := [.int p0]) (rest := [.int 0, .ref o]) C hr (by decide) rfl rfl (show 2 ≤ mj_mL (tb ar) 43 from Nat.le_of_ble_eq_true rfl) (fun w hw => by simp only [List.mem_cons, List.not_mem_nil, or_false] at hw; subst hw; rfl) lk_campaign hb1 hH hS wr_dm (wr_new hH.1) ⟨Nat.le_refl _, Nat.le_refl _⟩ hl.1 (Nat.le_of_ble_eq_true rfl) dL_campaign_4 ⟨Nat.le_of_eq (Nat.zero_add _), Nat.le_of_eq (Nat.zero_add _)⟩ (fun H1 locs1 hH1 hS1 hz hk => ?_)
  rw [Nat.zero_add, Nat.zero_add]
  refine lv_i2l (v := v.toInt64) hx hb dL_campaign_7 rfl ?_
  have hlt : o < s.heap.size := by
    rw [← hH.1]
    exact Nat.not_le.mp (fun q => ho (Or.inr q))
  have ho1 : H1[o]? = some (arrV cL 1 f0) := by rw [hk o hlt ho]; exact hof
  refine W.last hx hb ho1 (hLo 1 f0) (fun q => by cases q) (by show ¬ ((0 : Int32) < 0 ∨ (arrV _ _ _).slots.size ≤ _); rw [arrV_size]; decide) rfl rfl dL_campaign_8 (fun H2 e2 z2 o2 => ?_)
  have hS2 := hS1.put (k := Int32.toNatClampNeg 0) z2 o2 (show wr_A σ o o from Or.inr rfl)
  refine lv_goto (tgt := 18) hx hb dL_campaign_9 rfl ?_
  refine lv_iconst (v := 0) hx hb dL_campaign_18 (by decide) ?_
  refine vx_ret ?_
  exact W.iret (v := 0) hx hb hret (fun t ht hW => ⟨rfl, ⟨⟨_, by rw [ht, e2, arrV_store], rfl⟩, ⟨⟨_, by rw [ht, e2, arrV_store]⟩, fun a x hx => by rw [ht]; exact (hH1.2 a x hx).kept (o2 a (fun e => ho2 x (e ▸ hx)))⟩, by rw [ht, z2, ← hH1.1]; exact Nat.le_refl _⟩, hS2.F ht⟩) hS2.2.2 dL_campaign_19
theorem Lx_campaign_x_ix (hlt : l.stackTraces = false) (hr : mj_R (tb ar) 43 (mj_en (tb ar) 43 (.ref b :: [.int p0]) σ) (.inr x_ix, σ1)) (hb1 : σ.2.2 b = some (.inr (9, fs))) (ho : ¬ mj_A σ o) : vx_Met l yL_campaign (wr_ws yL_campaign cL_campaign 4 [(0, 9, 12, 13), (0, 9, 15, 17)]) (wr_rm ar 43 (σ1.1 - σ.1 + 1) (σ1.2.1 - σ.2.1 + 6)) (wr_Px ar D cL σ [.ref b, .int p0, .ref o] o) (wr_Q σ o 1 (wr_K2 D cL o σ1)) wr_No (σ1.1 - σ.1 + 1) (σ1.2.1 - σ.2.1 + 6) (wr_A σ o) := by
  refine vx_ofWH (cc := cL_campaign) (maxL := 4) (ret := some .int) (hh := [(0, 9, 12, 13), (0, 9, 15, 17)]) (by decide) rfl ?_
  intro p e s m args below meth c s₁ B hml hv
  obtain ⟨⟨rfl, hH, ⟨f0, hof⟩, hK, hKA, hN, -⟩, hXP, hNc⟩ := hv
  have hts := atoms_spec (ws := wr_ws yL_campaign cL_campaign 4 [(0, 9, 12, 13), (0, 9, 15, 17)]) B.pre
  have hown : s.vm.findClass RL = some m.cls := findClass_of_methodNamed B.named
  have hx := B.exec
  have hb := B.bytes
  have hret := B.returns
  have hlocks := B.notSynchronized
  have C : lw_C p s m ([.ref b, .int p0, .ref o] : List Value).toArray c cL_campaign 4 ar D := ⟨hx, hb, hml, hown, fun w hw => hts w (List.mem_cons_of_mem _ hw), hK, hKA, hN⟩
  have hl := lv_entry ([.ref b, .int p0, .ref o]) (n := 4) (Nat.le_of_ble_eq_true rfl)
  rw [lg_entry_eq]
  generalize (lg_sl ([.ref b, .int p0, .ref o]) ++ List.replicate (4 - (lg_sl ([.ref b, .int p0, .ref o])).length) Slot.unset).toArray = ls at hl ⊢
  have hl : lv_has ls 4 [(0, .ref b), (1, .int p0), (2, .ref o)] := hl
  have hS : va_S (wr_A σ o) s.heap s.heap [] := va_S.rf
  refine lv_aload_n hx hb dL_campaign_0 rfl (lv_at hl 2 rfl) ?_
  refine lv_iconst (v := 0) hx hb dL_campaign_1 (by decide) ?_
  refine lv_aload_n hx hb dL_campaign_2 rfl (lv_at hl 0 rfl) ?_
  refine lv_iload_n hx hb dL_campaign_3 rfl (lv_at hl 1 rfl) ?_
  refine lw_X (As := [.int p0]) (rest := [.int 0, .ref o]) hlt C hr (by decide) rfl rfl (show 2 ≤ mj_mL (tb ar) 43 from Nat.le_of_ble_eq_true rfl) (fun w hw => by simp only [List.mem_cons, List.not_mem_nil, or_false] at hw; subst hw; rfl) lk_campaign hb1 hH hXP hS wr_dm (wr_new hH.1) ⟨Nat.le_refl _, Nat.le_refl _⟩ hl.1 (Nat.le_of_ble_eq_true rfl) dL_campaign_4 ⟨Nat.le_of_eq (Nat.zero_add _), Nat.le_of_eq (Nat.zero_add _)⟩ (fun H1 locs1 ce q9 hcell hS1 hz hk hce hcv hcl => ?_)
  rw [Nat.zero_add, Nat.zero_add]
  refine vx_catch (own := RL) (name := x_ix) hown [] ⟨0, 9, 12, 13⟩ [⟨0, 9, 15, 17⟩] (by rw [vx_table (x := yL_cell) B (hts _ List.mem_cons_self)]; rfl) (fun z hz => by cases hz) (by decide) (by decide) (hts _ (List.mem_cons_of_mem _ (show Cond.classLink RL 13 x_ix ∈ tb_W by decide +kernel))) (va_tabs rfl rfl (hN (Cond.castable x_ix x_ix) (by decide +kernel))) hce hcv hcl ?_
  refine lv_astore_n (lv' := (3, .ref q9) :: [(0, .ref b), (1, .int p0), (2, .ref o)]) hx hb dL_campaign_12 rfl hl (by decide) rfl (fun ls hl => ?_)
  refine lv_iconst (v := 1) hx hb dL_campaign_13 (by decide) ?_
  refine vx_ret ?_
  exact W.iret (v := 1) hx hb hret (fun t ht hW => ⟨rfl, ⟨⟨f0, by rw [ht, hk o (by rw [← hH.1]; exact Nat.not_le.mp (fun q => ho (Or.inr q))) ho]; exact hof⟩, fun a x hx => by rw [ht]; exact hcell a x hx⟩, hS1.F ht⟩) hS1.2.2 dL_campaign_14
theorem Lx_campaign_x_st (hlt : l.stackTraces = false) (hr : mj_R (tb ar) 43 (mj_en (tb ar) 43 (.ref b :: [.int p0]) σ) (.inr x_st, σ1)) (hb1 : σ.2.2 b = some (.inr (9, fs))) (ho : ¬ mj_A σ o) : vx_Met l yL_campaign (wr_ws yL_campaign cL_campaign 4 [(0, 9, 12, 13), (0, 9, 15, 17)]) (wr_rm ar 43 (σ1.1 - σ.1 + 1) (σ1.2.1 - σ.2.1 + 6)) (wr_Px ar D cL σ [.ref b, .int p0, .ref o] o) (wr_Q σ o 2 (wr_K2 D cL o σ1)) wr_No (σ1.1 - σ.1 + 1) (σ1.2.1 - σ.2.1 + 6) (wr_A σ o) := by
  refine vx_ofWH (cc := cL_campaign) (maxL := 4) (ret := some .int) (hh := [(0, 9, 12, 13), (0, 9, 15, 17)]) (by decide) rfl ?_
  intro p e s m args below meth c s₁ B hml hv
  obtain ⟨⟨rfl, hH, ⟨f0, hof⟩, hK, hKA, hN, -⟩, hXP, hNc⟩ := hv
  have hts := atoms_spec (ws := wr_ws yL_campaign cL_campaign 4 [(0, 9, 12, 13), (0, 9, 15, 17)]) B.pre
  have hown : s.vm.findClass RL = some m.cls := findClass_of_methodNamed B.named
  have hx := B.exec
  have hb := B.bytes
  have hret := B.returns
  have hlocks := B.notSynchronized
  have C : lw_C p s m ([.ref b, .int p0, .ref o] : List Value).toArray c cL_campaign 4 ar D := ⟨hx, hb, hml, hown, fun w hw => hts w (List.mem_cons_of_mem _ hw), hK, hKA, hN⟩
  have hl := lv_entry ([.ref b, .int p0, .ref o]) (n := 4) (Nat.le_of_ble_eq_true rfl)
  rw [lg_entry_eq]
  generalize (lg_sl ([.ref b, .int p0, .ref o]) ++ List.replicate (4 - (lg_sl ([.ref b, .int p0, .ref o])).length) Slot.unset).toArray = ls at hl ⊢
  have hl : lv_has ls 4 [(0, .ref b), (1, .int p0), (2, .ref o)] := hl
  have hS : va_S (wr_A σ o) s.heap s.heap [] := va_S.rf
  refine lv_aload_n hx hb dL_campaign_0 rfl (lv_at hl 2 rfl) ?_
  refine lv_iconst (v := 0) hx hb dL_campaign_1 (by decide) ?_
  refine lv_aload_n hx hb dL_campaign_2 rfl (lv_at hl 0 rfl) ?_
  refine lv_iload_n hx hb dL_campaign_3 rfl (lv_at hl 1 rfl) ?_
  refine lw_X (As := [.int p0]) (rest := [.int 0, .ref o]) hlt C hr (by decide) rfl rfl (show 2 ≤ mj_mL (tb ar) 43 from Nat.le_of_ble_eq_true rfl) (fun w hw => by simp only [List.mem_cons, List.not_mem_nil, or_false] at hw; subst hw; rfl) lk_campaign hb1 hH hXP hS wr_dm (wr_new hH.1) ⟨Nat.le_refl _, Nat.le_refl _⟩ hl.1 (Nat.le_of_ble_eq_true rfl) dL_campaign_4 ⟨Nat.le_of_eq (Nat.zero_add _), Nat.le_of_eq (Nat.zero_add _)⟩ (fun H1 locs1 ce q9 hcell hS1 hz hk hce hcv hcl => ?_)
  rw [Nat.zero_add, Nat.zero_add]
  refine vx_catch (own := RL) (name := x_st) hown [⟨0, 9, 12, 13⟩] ⟨0, 9, 15, 17⟩ [] (by rw [vx_table (x := yL_cell) B (hts _ List.mem_cons_self)]; rfl) (fun z hz => by
    simp only [List.mem_cons, List.not_mem_nil, or_false] at hz
    subst hz
    exact Or.inr ⟨by decide, x_ix, hts _ (List.mem_cons_of_mem _ (show Cond.classLink RL 13 x_ix ∈ tb_W by decide +kernel)), hNc.2.1⟩) (by decide) (by decide) (hts _ (List.mem_cons_of_mem _ (show Cond.classLink RL 17 x_st ∈ tb_W by decide +kernel))) (va_tabs rfl rfl (hN (Cond.castable x_st x_st) (by decide +kernel))) hce hcv hcl ?_
  refine lv_astore_n (lv' := (3, .ref q9) :: [(0, .ref b), (1, .int p0), (2, .ref o)]) hx hb dL_campaign_15 rfl hl (by decide) rfl (fun ls hl => ?_)
  refine lv_iconst (v := 2) hx hb dL_campaign_16 (by decide) ?_
  refine vx_ret ?_
  exact W.iret (v := 2) hx hb hret (fun t ht hW => ⟨rfl, ⟨⟨f0, by rw [ht, hk o (by rw [← hH.1]; exact Nat.not_le.mp (fun q => ho (Or.inr q))) ho]; exact hof⟩, fun a x hx => by rw [ht]; exact hcell a x hx⟩, hS1.F ht⟩) hS1.2.2 dL_campaign_17
theorem lk_deliver : Cond.methodLink RL 23 (tb_Y 44) ∈ tb_W := by decide +kernel
theorem Lr_deliver (hr : mj_R (tb ar) 44 (mj_en (tb ar) 44 (.ref b :: [.int p0]) σ) (.inl (some (.int v)), σ1)) (hb1 : σ.2.2 b = some (.inr (9, fs))) (ho : ¬ mj_A σ o) (ho2 : ∀ x, ¬ σ1.2.2 o = some x) : vx_Met l yL_deliver (wr_ws yL_deliver cL_deliver 4 [(0, 9, 12, 13)]) (wr_rm ar 44 (σ1.1 - σ.1) (σ1.2.1 - σ.2.1)) (wr_Pc ar D cL σ [.ref b, .int p0, .ref o] o) (wr_Q σ o 0 (fun H => wr_K cL o v.toInt64 H ∧ wr_K2 D cL o σ1 H ∧ σ1.1 ≤ H.size)) wr_No (σ1.1 - σ.1) (σ1.2.1 - σ.2.1) (wr_A σ o) := by
  refine vx_ofWH (cc := cL_deliver) (maxL := 4) (ret := some .int) (hh := [(0, 9, 12, 13)]) (by decide) rfl ?_
  intro p e s m args below meth c s₁ B hml hv
  obtain ⟨rfl, hH, ⟨f0, hof⟩, hK, hKA, hN, hLo⟩ := hv
  have hts := atoms_spec (ws := wr_ws yL_deliver cL_deliver 4 [(0, 9, 12, 13)]) B.pre
  have hown : s.vm.findClass RL = some m.cls := findClass_of_methodNamed B.named
  have hx := B.exec
  have hb := B.bytes
  have hret := B.returns
  have hlocks := B.notSynchronized
  have C : lw_C p s m ([.ref b, .int p0, .ref o] : List Value).toArray c cL_deliver 4 ar D := ⟨hx, hb, hml, hown, fun w hw => hts w (List.mem_cons_of_mem _ hw), hK, hKA, hN⟩
  have hl := lv_entry ([.ref b, .int p0, .ref o]) (n := 4) (Nat.le_of_ble_eq_true rfl)
  rw [lg_entry_eq]
  generalize (lg_sl ([.ref b, .int p0, .ref o]) ++ List.replicate (4 - (lg_sl ([.ref b, .int p0, .ref o])).length) Slot.unset).toArray = ls at hl ⊢
  have hl : lv_has ls 4 [(0, .ref b), (1, .int p0), (2, .ref o)] := hl
  have hS : va_S (wr_A σ o) s.heap s.heap [] := va_S.rf
  refine lv_aload_n hx hb dL_deliver_0 rfl (lv_at hl 2 rfl) ?_
  refine lv_iconst (v := 0) hx hb dL_deliver_1 (by decide) ?_
  refine lv_aload_n hx hb dL_deliver_2 rfl (lv_at hl 0 rfl) ?_
  refine lv_iload_n hx hb dL_deliver_3 rfl (lv_at hl 1 rfl) ?_
  refine lw_V (As := [.int p0]) (rest := [.int 0, .ref o]) C hr (by decide) rfl rfl (show 2 ≤ mj_mL (tb ar) 44 from Nat.le_of_ble_eq_true rfl) (fun w hw => by simp only [List.mem_cons, List.not_mem_nil, or_false] at hw; subst hw; rfl) lk_deliver hb1 hH hS wr_dm (wr_new hH.1) ⟨Nat.le_refl _, Nat.le_refl _⟩ hl.1 (Nat.le_of_ble_eq_true rfl) dL_deliver_4 ⟨Nat.le_of_eq (Nat.zero_add _), Nat.le_of_eq (Nat.zero_add _)⟩ (fun H1 locs1 hH1 hS1 hz hk => ?_)
  rw [Nat.zero_add, Nat.zero_add]
  refine lv_i2l (v := v.toInt64) hx hb dL_deliver_7 rfl ?_
  have hlt : o < s.heap.size := by
    rw [← hH.1]
    exact Nat.not_le.mp (fun q => ho (Or.inr q))
  have ho1 : H1[o]? = some (arrV cL 1 f0) := by rw [hk o hlt ho]; exact hof
  refine W.last hx hb ho1 (hLo 1 f0) (fun q => by cases q) (by show ¬ ((0 : Int32) < 0 ∨ (arrV _ _ _).slots.size ≤ _); rw [arrV_size]; decide) rfl rfl dL_deliver_8 (fun H2 e2 z2 o2 => ?_)
  have hS2 := hS1.put (k := Int32.toNatClampNeg 0) z2 o2 (show wr_A σ o o from Or.inr rfl)
  refine lv_goto (tgt := 15) hx hb dL_deliver_9 rfl ?_
  refine lv_iconst (v := 0) hx hb dL_deliver_15 (by decide) ?_
  refine vx_ret ?_
  exact W.iret (v := 0) hx hb hret (fun t ht hW => ⟨rfl, ⟨⟨_, by rw [ht, e2, arrV_store], rfl⟩, ⟨⟨_, by rw [ht, e2, arrV_store]⟩, fun a x hx => by rw [ht]; exact (hH1.2 a x hx).kept (o2 a (fun e => ho2 x (e ▸ hx)))⟩, by rw [ht, z2, ← hH1.1]; exact Nat.le_refl _⟩, hS2.F ht⟩) hS2.2.2 dL_deliver_16
theorem Lx_deliver_x_ix (hlt : l.stackTraces = false) (hr : mj_R (tb ar) 44 (mj_en (tb ar) 44 (.ref b :: [.int p0]) σ) (.inr x_ix, σ1)) (hb1 : σ.2.2 b = some (.inr (9, fs))) (ho : ¬ mj_A σ o) : vx_Met l yL_deliver (wr_ws yL_deliver cL_deliver 4 [(0, 9, 12, 13)]) (wr_rm ar 44 (σ1.1 - σ.1 + 1) (σ1.2.1 - σ.2.1 + 6)) (wr_Px ar D cL σ [.ref b, .int p0, .ref o] o) (wr_Q σ o 1 (wr_K2 D cL o σ1)) wr_No (σ1.1 - σ.1 + 1) (σ1.2.1 - σ.2.1 + 6) (wr_A σ o) := by
  refine vx_ofWH (cc := cL_deliver) (maxL := 4) (ret := some .int) (hh := [(0, 9, 12, 13)]) (by decide) rfl ?_
  intro p e s m args below meth c s₁ B hml hv
  obtain ⟨⟨rfl, hH, ⟨f0, hof⟩, hK, hKA, hN, -⟩, hXP, hNc⟩ := hv
  have hts := atoms_spec (ws := wr_ws yL_deliver cL_deliver 4 [(0, 9, 12, 13)]) B.pre
  have hown : s.vm.findClass RL = some m.cls := findClass_of_methodNamed B.named
  have hx := B.exec
  have hb := B.bytes
  have hret := B.returns
  have hlocks := B.notSynchronized
  have C : lw_C p s m ([.ref b, .int p0, .ref o] : List Value).toArray c cL_deliver 4 ar D := ⟨hx, hb, hml, hown, fun w hw => hts w (List.mem_cons_of_mem _ hw), hK, hKA, hN⟩
  have hl := lv_entry ([.ref b, .int p0, .ref o]) (n := 4) (Nat.le_of_ble_eq_true rfl)
  rw [lg_entry_eq]
  generalize (lg_sl ([.ref b, .int p0, .ref o]) ++ List.replicate (4 - (lg_sl ([.ref b, .int p0, .ref o])).length) Slot.unset).toArray = ls at hl ⊢
  have hl : lv_has ls 4 [(0, .ref b), (1, .int p0), (2, .ref o)] := hl
  have hS : va_S (wr_A σ o) s.heap s.heap [] := va_S.rf
  refine lv_aload_n hx hb dL_deliver_0 rfl (lv_at hl 2 rfl) ?_
  refine lv_iconst (v := 0) hx hb dL_deliver_1 (by decide) ?_
  refine lv_aload_n hx hb dL_deliver_2 rfl (lv_at hl 0 rfl) ?_
  refine lv_iload_n hx hb dL_deliver_3 rfl (lv_at hl 1 rfl) ?_
  refine lw_X (As := [.int p0]) (rest := [.int 0, .ref o]) hlt C hr (by decide) rfl rfl (show 2 ≤ mj_mL (tb ar) 44 from Nat.le_of_ble_eq_true rfl) (fun w hw => by simp only [List.mem_cons, List.not_mem_nil, or_false] at hw; subst hw; rfl) lk_deliver hb1 hH hXP hS wr_dm (wr_new hH.1) ⟨Nat.le_refl _, Nat.le_refl _⟩ hl.1 (Nat.le_of_ble_eq_true rfl) dL_deliver_4 ⟨Nat.le_of_eq (Nat.zero_add _), Nat.le_of_eq (Nat.zero_add _)⟩ (fun H1 locs1 ce q9 hcell hS1 hz hk hce hcv hcl => ?_)
  rw [Nat.zero_add, Nat.zero_add]
  refine vx_catch (own := RL) (name := x_ix) hown [] ⟨0, 9, 12, 13⟩ [] (by rw [vx_table (x := yL_cell) B (hts _ List.mem_cons_self)]; rfl) (fun z hz => by cases hz) (by decide) (by decide) (hts _ (List.mem_cons_of_mem _ (show Cond.classLink RL 13 x_ix ∈ tb_W by decide +kernel))) (va_tabs rfl rfl (hN (Cond.castable x_ix x_ix) (by decide +kernel))) hce hcv hcl ?_
  refine lv_astore_n (lv' := (3, .ref q9) :: [(0, .ref b), (1, .int p0), (2, .ref o)]) hx hb dL_deliver_12 rfl hl (by decide) rfl (fun ls hl => ?_)
  refine lv_iconst (v := 1) hx hb dL_deliver_13 (by decide) ?_
  refine vx_ret ?_
  exact W.iret (v := 1) hx hb hret (fun t ht hW => ⟨rfl, ⟨⟨f0, by rw [ht, hk o (by rw [← hH.1]; exact Nat.not_le.mp (fun q => ho (Or.inr q))) ho]; exact hof⟩, fun a x hx => by rw [ht]; exact hcell a x hx⟩, hS1.F ht⟩) hS1.2.2 dL_deliver_14
theorem lk_lose : Cond.methodLink RL 26 (tb_Y 45) ∈ tb_W := by decide +kernel
theorem Lr_lose (hr : mj_R (tb ar) 45 (mj_en (tb ar) 45 (.ref b :: [.int p0]) σ) (.inl (some (.int v)), σ1)) (hb1 : σ.2.2 b = some (.inr (9, fs))) (ho : ¬ mj_A σ o) (ho2 : ∀ x, ¬ σ1.2.2 o = some x) : vx_Met l yL_lose (wr_ws yL_lose cL_lose 4 [(0, 9, 12, 13)]) (wr_rm ar 45 (σ1.1 - σ.1) (σ1.2.1 - σ.2.1)) (wr_Pc ar D cL σ [.ref b, .int p0, .ref o] o) (wr_Q σ o 0 (fun H => wr_K cL o v.toInt64 H ∧ wr_K2 D cL o σ1 H ∧ σ1.1 ≤ H.size)) wr_No (σ1.1 - σ.1) (σ1.2.1 - σ.2.1) (wr_A σ o) := by
  refine vx_ofWH (cc := cL_lose) (maxL := 4) (ret := some .int) (hh := [(0, 9, 12, 13)]) (by decide) rfl ?_
  intro p e s m args below meth c s₁ B hml hv
  obtain ⟨rfl, hH, ⟨f0, hof⟩, hK, hKA, hN, hLo⟩ := hv
  have hts := atoms_spec (ws := wr_ws yL_lose cL_lose 4 [(0, 9, 12, 13)]) B.pre
  have hown : s.vm.findClass RL = some m.cls := findClass_of_methodNamed B.named
  have hx := B.exec
  have hb := B.bytes
  have hret := B.returns
  have hlocks := B.notSynchronized
  have C : lw_C p s m ([.ref b, .int p0, .ref o] : List Value).toArray c cL_lose 4 ar D := ⟨hx, hb, hml, hown, fun w hw => hts w (List.mem_cons_of_mem _ hw), hK, hKA, hN⟩
  have hl := lv_entry ([.ref b, .int p0, .ref o]) (n := 4) (Nat.le_of_ble_eq_true rfl)
  rw [lg_entry_eq]
  generalize (lg_sl ([.ref b, .int p0, .ref o]) ++ List.replicate (4 - (lg_sl ([.ref b, .int p0, .ref o])).length) Slot.unset).toArray = ls at hl ⊢
  have hl : lv_has ls 4 [(0, .ref b), (1, .int p0), (2, .ref o)] := hl
  have hS : va_S (wr_A σ o) s.heap s.heap [] := va_S.rf
  refine lv_aload_n hx hb dL_lose_0 rfl (lv_at hl 2 rfl) ?_
  refine lv_iconst (v := 0) hx hb dL_lose_1 (by decide) ?_
  refine lv_aload_n hx hb dL_lose_2 rfl (lv_at hl 0 rfl) ?_
  refine lv_iload_n hx hb dL_lose_3 rfl (lv_at hl 1 rfl) ?_
  refine lw_V (As := [.int p0]) (rest := [.int 0, .ref o]) C hr (by decide) rfl rfl (show 2 ≤ mj_mL (tb ar) 45 from Nat.le_of_ble_eq_true rfl) (fun w hw => by simp only [List.mem_cons, List.not_mem_nil, or_false] at hw; subst hw; rfl) lk_lose hb1 hH hS wr_dm (wr_new hH.1) ⟨Nat.le_refl _, Nat.le_refl _⟩ hl.1 (Nat.le_of_ble_eq_true rfl) dL_lose_4 ⟨Nat.le_of_eq (Nat.zero_add _), Nat.le_of_eq (Nat.zero_add _)⟩ (fun H1 locs1 hH1 hS1 hz hk => ?_)
  rw [Nat.zero_add, Nat.zero_add]
  refine lv_i2l (v := v.toInt64) hx hb dL_lose_7 rfl ?_
  have hlt : o < s.heap.size := by
    rw [← hH.1]
    exact Nat.not_le.mp (fun q => ho (Or.inr q))
  have ho1 : H1[o]? = some (arrV cL 1 f0) := by rw [hk o hlt ho]; exact hof
  refine W.last hx hb ho1 (hLo 1 f0) (fun q => by cases q) (by show ¬ ((0 : Int32) < 0 ∨ (arrV _ _ _).slots.size ≤ _); rw [arrV_size]; decide) rfl rfl dL_lose_8 (fun H2 e2 z2 o2 => ?_)
  have hS2 := hS1.put (k := Int32.toNatClampNeg 0) z2 o2 (show wr_A σ o o from Or.inr rfl)
  refine lv_goto (tgt := 15) hx hb dL_lose_9 rfl ?_
  refine lv_iconst (v := 0) hx hb dL_lose_15 (by decide) ?_
  refine vx_ret ?_
  exact W.iret (v := 0) hx hb hret (fun t ht hW => ⟨rfl, ⟨⟨_, by rw [ht, e2, arrV_store], rfl⟩, ⟨⟨_, by rw [ht, e2, arrV_store]⟩, fun a x hx => by rw [ht]; exact (hH1.2 a x hx).kept (o2 a (fun e => ho2 x (e ▸ hx)))⟩, by rw [ht, z2, ← hH1.1]; exact Nat.le_refl _⟩, hS2.F ht⟩) hS2.2.2 dL_lose_16
theorem Lx_lose_x_ix (hlt : l.stackTraces = false) (hr : mj_R (tb ar) 45 (mj_en (tb ar) 45 (.ref b :: [.int p0]) σ) (.inr x_ix, σ1)) (hb1 : σ.2.2 b = some (.inr (9, fs))) (ho : ¬ mj_A σ o) : vx_Met l yL_lose (wr_ws yL_lose cL_lose 4 [(0, 9, 12, 13)]) (wr_rm ar 45 (σ1.1 - σ.1 + 1) (σ1.2.1 - σ.2.1 + 6)) (wr_Px ar D cL σ [.ref b, .int p0, .ref o] o) (wr_Q σ o 1 (wr_K2 D cL o σ1)) wr_No (σ1.1 - σ.1 + 1) (σ1.2.1 - σ.2.1 + 6) (wr_A σ o) := by
  refine vx_ofWH (cc := cL_lose) (maxL := 4) (ret := some .int) (hh := [(0, 9, 12, 13)]) (by decide) rfl ?_
  intro p e s m args below meth c s₁ B hml hv
  obtain ⟨⟨rfl, hH, ⟨f0, hof⟩, hK, hKA, hN, -⟩, hXP, hNc⟩ := hv
  have hts := atoms_spec (ws := wr_ws yL_lose cL_lose 4 [(0, 9, 12, 13)]) B.pre
  have hown : s.vm.findClass RL = some m.cls := findClass_of_methodNamed B.named
  have hx := B.exec
  have hb := B.bytes
  have hret := B.returns
  have hlocks := B.notSynchronized
  have C : lw_C p s m ([.ref b, .int p0, .ref o] : List Value).toArray c cL_lose 4 ar D := ⟨hx, hb, hml, hown, fun w hw => hts w (List.mem_cons_of_mem _ hw), hK, hKA, hN⟩
  have hl := lv_entry ([.ref b, .int p0, .ref o]) (n := 4) (Nat.le_of_ble_eq_true rfl)
  rw [lg_entry_eq]
  generalize (lg_sl ([.ref b, .int p0, .ref o]) ++ List.replicate (4 - (lg_sl ([.ref b, .int p0, .ref o])).length) Slot.unset).toArray = ls at hl ⊢
  have hl : lv_has ls 4 [(0, .ref b), (1, .int p0), (2, .ref o)] := hl
  have hS : va_S (wr_A σ o) s.heap s.heap [] := va_S.rf
  refine lv_aload_n hx hb dL_lose_0 rfl (lv_at hl 2 rfl) ?_
  refine lv_iconst (v := 0) hx hb dL_lose_1 (by decide) ?_
  refine lv_aload_n hx hb dL_lose_2 rfl (lv_at hl 0 rfl) ?_
  refine lv_iload_n hx hb dL_lose_3 rfl (lv_at hl 1 rfl) ?_
  refine lw_X (As := [.int p0]) (rest := [.int 0, .ref o]) hlt C hr (by decide) rfl rfl (show 2 ≤ mj_mL (tb ar) 45 from Nat.le_of_ble_eq_true rfl) (fun w hw => by simp only [List.mem_cons, List.not_mem_nil, or_false] at hw; subst hw; rfl) lk_lose hb1 hH hXP hS wr_dm (wr_new hH.1) ⟨Nat.le_refl _, Nat.le_refl _⟩ hl.1 (Nat.le_of_ble_eq_true rfl) dL_lose_4 ⟨Nat.le_of_eq (Nat.zero_add _), Nat.le_of_eq (Nat.zero_add _)⟩ (fun H1 locs1 ce q9 hcell hS1 hz hk hce hcv hcl => ?_)
  rw [Nat.zero_add, Nat.zero_add]
  refine vx_catch (own := RL) (name := x_ix) hown [] ⟨0, 9, 12, 13⟩ [] (by rw [vx_table (x := yL_cell) B (hts _ List.mem_cons_self)]; rfl) (fun z hz => by cases hz) (by decide) (by decide) (hts _ (List.mem_cons_of_mem _ (show Cond.classLink RL 13 x_ix ∈ tb_W by decide +kernel))) (va_tabs rfl rfl (hN (Cond.castable x_ix x_ix) (by decide +kernel))) hce hcv hcl ?_
  refine lv_astore_n (lv' := (3, .ref q9) :: [(0, .ref b), (1, .int p0), (2, .ref o)]) hx hb dL_lose_12 rfl hl (by decide) rfl (fun ls hl => ?_)
  refine lv_iconst (v := 1) hx hb dL_lose_13 (by decide) ?_
  refine vx_ret ?_
  exact W.iret (v := 1) hx hb hret (fun t ht hW => ⟨rfl, ⟨⟨f0, by rw [ht, hk o (by rw [← hH.1]; exact Nat.not_le.mp (fun q => ho (Or.inr q))) ho]; exact hof⟩, fun a x hx => by rw [ht]; exact hcell a x hx⟩, hS1.F ht⟩) hS1.2.2 dL_lose_14
theorem lk_repeat : Cond.methodLink RL 29 (tb_Y 46) ∈ tb_W := by decide +kernel
theorem Lr_repeat (hr : mj_R (tb ar) 46 (mj_en (tb ar) 46 (.ref b :: [.int p0]) σ) (.inl (some (.int v)), σ1)) (hb1 : σ.2.2 b = some (.inr (9, fs))) (ho : ¬ mj_A σ o) (ho2 : ∀ x, ¬ σ1.2.2 o = some x) : vx_Met l yL_repeat (wr_ws yL_repeat cL_repeat 4 [(0, 9, 12, 13), (0, 9, 15, 17)]) (wr_rm ar 46 (σ1.1 - σ.1) (σ1.2.1 - σ.2.1)) (wr_Pc ar D cL σ [.ref b, .int p0, .ref o] o) (wr_Q σ o 0 (fun H => wr_K cL o v.toInt64 H ∧ wr_K2 D cL o σ1 H ∧ σ1.1 ≤ H.size)) wr_No (σ1.1 - σ.1) (σ1.2.1 - σ.2.1) (wr_A σ o) := by
  refine vx_ofWH (cc := cL_repeat) (maxL := 4) (ret := some .int) (hh := [(0, 9, 12, 13), (0, 9, 15, 17)]) (by decide) rfl ?_
  intro p e s m args below meth c s₁ B hml hv
  obtain ⟨rfl, hH, ⟨f0, hof⟩, hK, hKA, hN, hLo⟩ := hv
  have hts := atoms_spec (ws := wr_ws yL_repeat cL_repeat 4 [(0, 9, 12, 13), (0, 9, 15, 17)]) B.pre
  have hown : s.vm.findClass RL = some m.cls := findClass_of_methodNamed B.named
  have hx := B.exec
  have hb := B.bytes
  have hret := B.returns
  have hlocks := B.notSynchronized
  have C : lw_C p s m ([.ref b, .int p0, .ref o] : List Value).toArray c cL_repeat 4 ar D := ⟨hx, hb, hml, hown, fun w hw => hts w (List.mem_cons_of_mem _ hw), hK, hKA, hN⟩
  have hl := lv_entry ([.ref b, .int p0, .ref o]) (n := 4) (Nat.le_of_ble_eq_true rfl)
  rw [lg_entry_eq]
  generalize (lg_sl ([.ref b, .int p0, .ref o]) ++ List.replicate (4 - (lg_sl ([.ref b, .int p0, .ref o])).length) Slot.unset).toArray = ls at hl ⊢
  have hl : lv_has ls 4 [(0, .ref b), (1, .int p0), (2, .ref o)] := hl
  have hS : va_S (wr_A σ o) s.heap s.heap [] := va_S.rf
  refine lv_aload_n hx hb dL_repeat_0 rfl (lv_at hl 2 rfl) ?_
  refine lv_iconst (v := 0) hx hb dL_repeat_1 (by decide) ?_
  refine lv_aload_n hx hb dL_repeat_2 rfl (lv_at hl 0 rfl) ?_
  refine lv_iload_n hx hb dL_repeat_3 rfl (lv_at hl 1 rfl) ?_
  refine lw_V (As := [.int p0]) (rest := [.int 0, .ref o]) C hr (by decide) rfl rfl (show 2 ≤ mj_mL (tb ar) 46 from Nat.le_of_ble_eq_true rfl) (fun w hw => by simp only [List.mem_cons, List.not_mem_nil, or_false] at hw; subst hw; rfl) lk_repeat hb1 hH hS wr_dm (wr_new hH.1) ⟨Nat.le_refl _, Nat.le_refl _⟩ hl.1 (Nat.le_of_ble_eq_true rfl) dL_repeat_4 ⟨Nat.le_of_eq (Nat.zero_add _), Nat.le_of_eq (Nat.zero_add _)⟩ (fun H1 locs1 hH1 hS1 hz hk => ?_)
  rw [Nat.zero_add, Nat.zero_add]
  refine lv_i2l (v := v.toInt64) hx hb dL_repeat_7 rfl ?_
  have hlt : o < s.heap.size := by
    rw [← hH.1]
    exact Nat.not_le.mp (fun q => ho (Or.inr q))
  have ho1 : H1[o]? = some (arrV cL 1 f0) := by rw [hk o hlt ho]; exact hof
  refine W.last hx hb ho1 (hLo 1 f0) (fun q => by cases q) (by show ¬ ((0 : Int32) < 0 ∨ (arrV _ _ _).slots.size ≤ _); rw [arrV_size]; decide) rfl rfl dL_repeat_8 (fun H2 e2 z2 o2 => ?_)
  have hS2 := hS1.put (k := Int32.toNatClampNeg 0) z2 o2 (show wr_A σ o o from Or.inr rfl)
  refine lv_goto (tgt := 18) hx hb dL_repeat_9 rfl ?_
  refine lv_iconst (v := 0) hx hb dL_repeat_18 (by decide) ?_
  refine vx_ret ?_
  exact W.iret (v := 0) hx hb hret (fun t ht hW => ⟨rfl, ⟨⟨_, by rw [ht, e2, arrV_store], rfl⟩, ⟨⟨_, by rw [ht, e2, arrV_store]⟩, fun a x hx => by rw [ht]; exact (hH1.2 a x hx).kept (o2 a (fun e => ho2 x (e ▸ hx)))⟩, by rw [ht, z2, ← hH1.1]; exact Nat.le_refl _⟩, hS2.F ht⟩) hS2.2.2 dL_repeat_19
theorem Lx_repeat_x_ix (hlt : l.stackTraces = false) (hr : mj_R (tb ar) 46 (mj_en (tb ar) 46 (.ref b :: [.int p0]) σ) (.inr x_ix, σ1)) (hb1 : σ.2.2 b = some (.inr (9, fs))) (ho : ¬ mj_A σ o) : vx_Met l yL_repeat (wr_ws yL_repeat cL_repeat 4 [(0, 9, 12, 13), (0, 9, 15, 17)]) (wr_rm ar 46 (σ1.1 - σ.1 + 1) (σ1.2.1 - σ.2.1 + 6)) (wr_Px ar D cL σ [.ref b, .int p0, .ref o] o) (wr_Q σ o 1 (wr_K2 D cL o σ1)) wr_No (σ1.1 - σ.1 + 1) (σ1.2.1 - σ.2.1 + 6) (wr_A σ o) := by
  refine vx_ofWH (cc := cL_repeat) (maxL := 4) (ret := some .int) (hh := [(0, 9, 12, 13), (0, 9, 15, 17)]) (by decide) rfl ?_
  intro p e s m args below meth c s₁ B hml hv
  obtain ⟨⟨rfl, hH, ⟨f0, hof⟩, hK, hKA, hN, -⟩, hXP, hNc⟩ := hv
  have hts := atoms_spec (ws := wr_ws yL_repeat cL_repeat 4 [(0, 9, 12, 13), (0, 9, 15, 17)]) B.pre
  have hown : s.vm.findClass RL = some m.cls := findClass_of_methodNamed B.named
  have hx := B.exec
  have hb := B.bytes
  have hret := B.returns
  have hlocks := B.notSynchronized
  have C : lw_C p s m ([.ref b, .int p0, .ref o] : List Value).toArray c cL_repeat 4 ar D := ⟨hx, hb, hml, hown, fun w hw => hts w (List.mem_cons_of_mem _ hw), hK, hKA, hN⟩
  have hl := lv_entry ([.ref b, .int p0, .ref o]) (n := 4) (Nat.le_of_ble_eq_true rfl)
  rw [lg_entry_eq]
  generalize (lg_sl ([.ref b, .int p0, .ref o]) ++ List.replicate (4 - (lg_sl ([.ref b, .int p0, .ref o])).length) Slot.unset).toArray = ls at hl ⊢
  have hl : lv_has ls 4 [(0, .ref b), (1, .int p0), (2, .ref o)] := hl
  have hS : va_S (wr_A σ o) s.heap s.heap [] := va_S.rf
  refine lv_aload_n hx hb dL_repeat_0 rfl (lv_at hl 2 rfl) ?_
  refine lv_iconst (v := 0) hx hb dL_repeat_1 (by decide) ?_
  refine lv_aload_n hx hb dL_repeat_2 rfl (lv_at hl 0 rfl) ?_
  refine lv_iload_n hx hb dL_repeat_3 rfl (lv_at hl 1 rfl) ?_
  refine lw_X (As := [.int p0]) (rest := [.int 0, .ref o]) hlt C hr (by decide) rfl rfl (show 2 ≤ mj_mL (tb ar) 46 from Nat.le_of_ble_eq_true rfl) (fun w hw => by simp only [List.mem_cons, List.not_mem_nil, or_false] at hw; subst hw; rfl) lk_repeat hb1 hH hXP hS wr_dm (wr_new hH.1) ⟨Nat.le_refl _, Nat.le_refl _⟩ hl.1 (Nat.le_of_ble_eq_true rfl) dL_repeat_4 ⟨Nat.le_of_eq (Nat.zero_add _), Nat.le_of_eq (Nat.zero_add _)⟩ (fun H1 locs1 ce q9 hcell hS1 hz hk hce hcv hcl => ?_)
  rw [Nat.zero_add, Nat.zero_add]
  refine vx_catch (own := RL) (name := x_ix) hown [] ⟨0, 9, 12, 13⟩ [⟨0, 9, 15, 17⟩] (by rw [vx_table (x := yL_cell) B (hts _ List.mem_cons_self)]; rfl) (fun z hz => by cases hz) (by decide) (by decide) (hts _ (List.mem_cons_of_mem _ (show Cond.classLink RL 13 x_ix ∈ tb_W by decide +kernel))) (va_tabs rfl rfl (hN (Cond.castable x_ix x_ix) (by decide +kernel))) hce hcv hcl ?_
  refine lv_astore_n (lv' := (3, .ref q9) :: [(0, .ref b), (1, .int p0), (2, .ref o)]) hx hb dL_repeat_12 rfl hl (by decide) rfl (fun ls hl => ?_)
  refine lv_iconst (v := 1) hx hb dL_repeat_13 (by decide) ?_
  refine vx_ret ?_
  exact W.iret (v := 1) hx hb hret (fun t ht hW => ⟨rfl, ⟨⟨f0, by rw [ht, hk o (by rw [← hH.1]; exact Nat.not_le.mp (fun q => ho (Or.inr q))) ho]; exact hof⟩, fun a x hx => by rw [ht]; exact hcell a x hx⟩, hS1.F ht⟩) hS1.2.2 dL_repeat_14
theorem Lx_repeat_x_st (hlt : l.stackTraces = false) (hr : mj_R (tb ar) 46 (mj_en (tb ar) 46 (.ref b :: [.int p0]) σ) (.inr x_st, σ1)) (hb1 : σ.2.2 b = some (.inr (9, fs))) (ho : ¬ mj_A σ o) : vx_Met l yL_repeat (wr_ws yL_repeat cL_repeat 4 [(0, 9, 12, 13), (0, 9, 15, 17)]) (wr_rm ar 46 (σ1.1 - σ.1 + 1) (σ1.2.1 - σ.2.1 + 6)) (wr_Px ar D cL σ [.ref b, .int p0, .ref o] o) (wr_Q σ o 2 (wr_K2 D cL o σ1)) wr_No (σ1.1 - σ.1 + 1) (σ1.2.1 - σ.2.1 + 6) (wr_A σ o) := by
  refine vx_ofWH (cc := cL_repeat) (maxL := 4) (ret := some .int) (hh := [(0, 9, 12, 13), (0, 9, 15, 17)]) (by decide) rfl ?_
  intro p e s m args below meth c s₁ B hml hv
  obtain ⟨⟨rfl, hH, ⟨f0, hof⟩, hK, hKA, hN, -⟩, hXP, hNc⟩ := hv
  have hts := atoms_spec (ws := wr_ws yL_repeat cL_repeat 4 [(0, 9, 12, 13), (0, 9, 15, 17)]) B.pre
  have hown : s.vm.findClass RL = some m.cls := findClass_of_methodNamed B.named
  have hx := B.exec
  have hb := B.bytes
  have hret := B.returns
  have hlocks := B.notSynchronized
  have C : lw_C p s m ([.ref b, .int p0, .ref o] : List Value).toArray c cL_repeat 4 ar D := ⟨hx, hb, hml, hown, fun w hw => hts w (List.mem_cons_of_mem _ hw), hK, hKA, hN⟩
  have hl := lv_entry ([.ref b, .int p0, .ref o]) (n := 4) (Nat.le_of_ble_eq_true rfl)
  rw [lg_entry_eq]
  generalize (lg_sl ([.ref b, .int p0, .ref o]) ++ List.replicate (4 - (lg_sl ([.ref b, .int p0, .ref o])).length) Slot.unset).toArray = ls at hl ⊢
  have hl : lv_has ls 4 [(0, .ref b), (1, .int p0), (2, .ref o)] := hl
  have hS : va_S (wr_A σ o) s.heap s.heap [] := va_S.rf
  refine lv_aload_n hx hb dL_repeat_0 rfl (lv_at hl 2 rfl) ?_
  refine lv_iconst (v := 0) hx hb dL_repeat_1 (by decide) ?_
  refine lv_aload_n hx hb dL_repeat_2 rfl (lv_at hl 0 rfl) ?_
  refine lv_iload_n hx hb dL_repeat_3 rfl (lv_at hl 1 rfl) ?_
  refine lw_X (As := [.int p0]) (rest := [.int 0, .ref o]) hlt C hr (by decide) rfl rfl (show 2 ≤ mj_mL (tb ar) 46 from Nat.le_of_ble_eq_true rfl) (fun w hw => by simp only [List.mem_cons, List.not_mem_nil, or_false] at hw; subst hw; rfl) lk_repeat hb1 hH hXP hS wr_dm (wr_new hH.1) ⟨Nat.le_refl _, Nat.le_refl _⟩ hl.1 (Nat.le_of_ble_eq_true rfl) dL_repeat_4 ⟨Nat.le_of_eq (Nat.zero_add _), Nat.le_of_eq (Nat.zero_add _)⟩ (fun H1 locs1 ce q9 hcell hS1 hz hk hce hcv hcl => ?_)
  rw [Nat.zero_add, Nat.zero_add]
  refine vx_catch (own := RL) (name := x_st) hown [⟨0, 9, 12, 13⟩] ⟨0, 9, 15, 17⟩ [] (by rw [vx_table (x := yL_cell) B (hts _ List.mem_cons_self)]; rfl) (fun z hz => by
    simp only [List.mem_cons, List.not_mem_nil, or_false] at hz
    subst hz
    exact Or.inr ⟨by decide, x_ix, hts _ (List.mem_cons_of_mem _ (show Cond.classLink RL 13 x_ix ∈ tb_W by decide +kernel)), hNc.2.1⟩) (by decide) (by decide) (hts _ (List.mem_cons_of_mem _ (show Cond.classLink RL 17 x_st ∈ tb_W by decide +kernel))) (va_tabs rfl rfl (hN (Cond.castable x_st x_st) (by decide +kernel))) hce hcv hcl ?_
  refine lv_astore_n (lv' := (3, .ref q9) :: [(0, .ref b), (1, .int p0), (2, .ref o)]) hx hb dL_repeat_15 rfl hl (by decide) rfl (fun ls hl => ?_)
  refine lv_iconst (v := 2) hx hb dL_repeat_16 (by decide) ?_
  refine vx_ret ?_
  exact W.iret (v := 2) hx hb hret (fun t ht hW => ⟨rfl, ⟨⟨f0, by rw [ht, hk o (by rw [← hH.1]; exact Nat.not_le.mp (fun q => ho (Or.inr q))) ho]; exact hof⟩, fun a x hx => by rw [ht]; exact hcell a x hx⟩, hS1.F ht⟩) hS1.2.2 dL_repeat_17
theorem lk_run : Cond.methodLink RL 32 (tb_Y 48) ∈ tb_W := by decide +kernel
theorem Lr_run (hr : mj_R (tb ar) 48 (mj_en (tb ar) 48 (.ref b :: [.int p0]) σ) (.inl (some (.int v)), σ1)) (hb1 : σ.2.2 b = some (.inr (9, fs))) (ho : ¬ mj_A σ o) (ho2 : ∀ x, ¬ σ1.2.2 o = some x) : vx_Met l yL_run (wr_ws yL_run cL_run 4 [(0, 9, 12, 15)]) (wr_rm ar 48 (σ1.1 - σ.1) (σ1.2.1 - σ.2.1)) (wr_Pc ar D cL σ [.ref b, .int p0, .ref o] o) (wr_Q σ o 0 (fun H => wr_K cL o v.toInt64 H ∧ wr_K2 D cL o σ1 H ∧ σ1.1 ≤ H.size)) wr_No (σ1.1 - σ.1) (σ1.2.1 - σ.2.1) (wr_A σ o) := by
  refine vx_ofWH (cc := cL_run) (maxL := 4) (ret := some .int) (hh := [(0, 9, 12, 15)]) (by decide) rfl ?_
  intro p e s m args below meth c s₁ B hml hv
  obtain ⟨rfl, hH, ⟨f0, hof⟩, hK, hKA, hN, hLo⟩ := hv
  have hts := atoms_spec (ws := wr_ws yL_run cL_run 4 [(0, 9, 12, 15)]) B.pre
  have hown : s.vm.findClass RL = some m.cls := findClass_of_methodNamed B.named
  have hx := B.exec
  have hb := B.bytes
  have hret := B.returns
  have hlocks := B.notSynchronized
  have C : lw_C p s m ([.ref b, .int p0, .ref o] : List Value).toArray c cL_run 4 ar D := ⟨hx, hb, hml, hown, fun w hw => hts w (List.mem_cons_of_mem _ hw), hK, hKA, hN⟩
  have hl := lv_entry ([.ref b, .int p0, .ref o]) (n := 4) (Nat.le_of_ble_eq_true rfl)
  rw [lg_entry_eq]
  generalize (lg_sl ([.ref b, .int p0, .ref o]) ++ List.replicate (4 - (lg_sl ([.ref b, .int p0, .ref o])).length) Slot.unset).toArray = ls at hl ⊢
  have hl : lv_has ls 4 [(0, .ref b), (1, .int p0), (2, .ref o)] := hl
  have hS : va_S (wr_A σ o) s.heap s.heap [] := va_S.rf
  refine lv_aload_n hx hb dL_run_0 rfl (lv_at hl 2 rfl) ?_
  refine lv_iconst (v := 0) hx hb dL_run_1 (by decide) ?_
  refine lv_aload_n hx hb dL_run_2 rfl (lv_at hl 0 rfl) ?_
  refine lv_iload_n hx hb dL_run_3 rfl (lv_at hl 1 rfl) ?_
  refine lw_V (As := [.int p0]) (rest := [.int 0, .ref o]) C hr (by decide) rfl rfl (show 2 ≤ mj_mL (tb ar) 48 from Nat.le_of_ble_eq_true rfl) (fun w hw => by simp only [List.mem_cons, List.not_mem_nil, or_false] at hw; subst hw; rfl) lk_run hb1 hH hS wr_dm (wr_new hH.1) ⟨Nat.le_refl _, Nat.le_refl _⟩ hl.1 (Nat.le_of_ble_eq_true rfl) dL_run_4 ⟨Nat.le_of_eq (Nat.zero_add _), Nat.le_of_eq (Nat.zero_add _)⟩ (fun H1 locs1 hH1 hS1 hz hk => ?_)
  rw [Nat.zero_add, Nat.zero_add]
  refine lv_i2l (v := v.toInt64) hx hb dL_run_7 rfl ?_
  have hlt : o < s.heap.size := by
    rw [← hH.1]
    exact Nat.not_le.mp (fun q => ho (Or.inr q))
  have ho1 : H1[o]? = some (arrV cL 1 f0) := by rw [hk o hlt ho]; exact hof
  refine W.last hx hb ho1 (hLo 1 f0) (fun q => by cases q) (by show ¬ ((0 : Int32) < 0 ∨ (arrV _ _ _).slots.size ≤ _); rw [arrV_size]; decide) rfl rfl dL_run_8 (fun H2 e2 z2 o2 => ?_)
  have hS2 := hS1.put (k := Int32.toNatClampNeg 0) z2 o2 (show wr_A σ o o from Or.inr rfl)
  refine lv_goto (tgt := 15) hx hb dL_run_9 rfl ?_
  refine lv_iconst (v := 0) hx hb dL_run_15 (by decide) ?_
  refine vx_ret ?_
  exact W.iret (v := 0) hx hb hret (fun t ht hW => ⟨rfl, ⟨⟨_, by rw [ht, e2, arrV_store], rfl⟩, ⟨⟨_, by rw [ht, e2, arrV_store]⟩, fun a x hx => by rw [ht]; exact (hH1.2 a x hx).kept (o2 a (fun e => ho2 x (e ▸ hx)))⟩, by rw [ht, z2, ← hH1.1]; exact Nat.le_refl _⟩, hS2.F ht⟩) hS2.2.2 dL_run_16
theorem Lx_run_x_ar (hlt : l.stackTraces = false) (hr : mj_R (tb ar) 48 (mj_en (tb ar) 48 (.ref b :: [.int p0]) σ) (.inr x_ar, σ1)) (hb1 : σ.2.2 b = some (.inr (9, fs))) (ho : ¬ mj_A σ o) : vx_Met l yL_run (wr_ws yL_run cL_run 4 [(0, 9, 12, 15)]) (wr_rm ar 48 (σ1.1 - σ.1 + 1) (σ1.2.1 - σ.2.1 + 6)) (wr_Px ar D cL σ [.ref b, .int p0, .ref o] o) (wr_Q σ o 1 (wr_K2 D cL o σ1)) wr_No (σ1.1 - σ.1 + 1) (σ1.2.1 - σ.2.1 + 6) (wr_A σ o) := by
  refine vx_ofWH (cc := cL_run) (maxL := 4) (ret := some .int) (hh := [(0, 9, 12, 15)]) (by decide) rfl ?_
  intro p e s m args below meth c s₁ B hml hv
  obtain ⟨⟨rfl, hH, ⟨f0, hof⟩, hK, hKA, hN, -⟩, hXP, hNc⟩ := hv
  have hts := atoms_spec (ws := wr_ws yL_run cL_run 4 [(0, 9, 12, 15)]) B.pre
  have hown : s.vm.findClass RL = some m.cls := findClass_of_methodNamed B.named
  have hx := B.exec
  have hb := B.bytes
  have hret := B.returns
  have hlocks := B.notSynchronized
  have C : lw_C p s m ([.ref b, .int p0, .ref o] : List Value).toArray c cL_run 4 ar D := ⟨hx, hb, hml, hown, fun w hw => hts w (List.mem_cons_of_mem _ hw), hK, hKA, hN⟩
  have hl := lv_entry ([.ref b, .int p0, .ref o]) (n := 4) (Nat.le_of_ble_eq_true rfl)
  rw [lg_entry_eq]
  generalize (lg_sl ([.ref b, .int p0, .ref o]) ++ List.replicate (4 - (lg_sl ([.ref b, .int p0, .ref o])).length) Slot.unset).toArray = ls at hl ⊢
  have hl : lv_has ls 4 [(0, .ref b), (1, .int p0), (2, .ref o)] := hl
  have hS : va_S (wr_A σ o) s.heap s.heap [] := va_S.rf
  refine lv_aload_n hx hb dL_run_0 rfl (lv_at hl 2 rfl) ?_
  refine lv_iconst (v := 0) hx hb dL_run_1 (by decide) ?_
  refine lv_aload_n hx hb dL_run_2 rfl (lv_at hl 0 rfl) ?_
  refine lv_iload_n hx hb dL_run_3 rfl (lv_at hl 1 rfl) ?_
  refine lw_X (As := [.int p0]) (rest := [.int 0, .ref o]) hlt C hr (by decide) rfl rfl (show 2 ≤ mj_mL (tb ar) 48 from Nat.le_of_ble_eq_true rfl) (fun w hw => by simp only [List.mem_cons, List.not_mem_nil, or_false] at hw; subst hw; rfl) lk_run hb1 hH hXP hS wr_dm (wr_new hH.1) ⟨Nat.le_refl _, Nat.le_refl _⟩ hl.1 (Nat.le_of_ble_eq_true rfl) dL_run_4 ⟨Nat.le_of_eq (Nat.zero_add _), Nat.le_of_eq (Nat.zero_add _)⟩ (fun H1 locs1 ce q9 hcell hS1 hz hk hce hcv hcl => ?_)
  rw [Nat.zero_add, Nat.zero_add]
  refine vx_catch (own := RL) (name := x_ar) hown [] ⟨0, 9, 12, 15⟩ [] (by rw [vx_table (x := yL_cell) B (hts _ List.mem_cons_self)]; rfl) (fun z hz => by cases hz) (by decide) (by decide) (hts _ (List.mem_cons_of_mem _ (show Cond.classLink RL 15 x_ar ∈ tb_W by decide +kernel))) (va_tabs rfl rfl (hN (Cond.castable x_ar x_ar) (by decide +kernel))) hce hcv hcl ?_
  refine lv_astore_n (lv' := (3, .ref q9) :: [(0, .ref b), (1, .int p0), (2, .ref o)]) hx hb dL_run_12 rfl hl (by decide) rfl (fun ls hl => ?_)
  refine lv_iconst (v := 1) hx hb dL_run_13 (by decide) ?_
  refine vx_ret ?_
  exact W.iret (v := 1) hx hb hret (fun t ht hW => ⟨rfl, ⟨⟨f0, by rw [ht, hk o (by rw [← hH.1]; exact Nat.not_le.mp (fun q => ho (Or.inr q))) ho]; exact hof⟩, fun a x hx => by rw [ht]; exact hcell a x hx⟩, hS1.F ht⟩) hS1.2.2 dL_run_14
theorem lk_crash : Cond.methodLink RL 35 (tb_Y 49) ∈ tb_W := by decide +kernel
theorem Lr_crash (hr : mj_R (tb ar) 49 (mj_en (tb ar) 49 (.ref b :: [.int p0, .int p1]) σ) (.inl (some (.int v)), σ1)) (hb1 : σ.2.2 b = some (.inr (9, fs))) (ho : ¬ mj_A σ o) (ho2 : ∀ x, ¬ σ1.2.2 o = some x) : vx_Met l yL_crash (wr_ws yL_crash cL_crash 5 [(0, 10, 13, 13)]) (wr_rm ar 49 (σ1.1 - σ.1) (σ1.2.1 - σ.2.1)) (wr_Pc ar D cL σ [.ref b, .int p0, .int p1, .ref o] o) (wr_Q σ o 0 (fun H => wr_K cL o v.toInt64 H ∧ wr_K2 D cL o σ1 H ∧ σ1.1 ≤ H.size)) wr_No (σ1.1 - σ.1) (σ1.2.1 - σ.2.1) (wr_A σ o) := by
  refine vx_ofWH (cc := cL_crash) (maxL := 5) (ret := some .int) (hh := [(0, 10, 13, 13)]) (by decide) rfl ?_
  intro p e s m args below meth c s₁ B hml hv
  obtain ⟨rfl, hH, ⟨f0, hof⟩, hK, hKA, hN, hLo⟩ := hv
  have hts := atoms_spec (ws := wr_ws yL_crash cL_crash 5 [(0, 10, 13, 13)]) B.pre
  have hown : s.vm.findClass RL = some m.cls := findClass_of_methodNamed B.named
  have hx := B.exec
  have hb := B.bytes
  have hret := B.returns
  have hlocks := B.notSynchronized
  have C : lw_C p s m ([.ref b, .int p0, .int p1, .ref o] : List Value).toArray c cL_crash 5 ar D := ⟨hx, hb, hml, hown, fun w hw => hts w (List.mem_cons_of_mem _ hw), hK, hKA, hN⟩
  have hl := lv_entry ([.ref b, .int p0, .int p1, .ref o]) (n := 5) (Nat.le_of_ble_eq_true rfl)
  rw [lg_entry_eq]
  generalize (lg_sl ([.ref b, .int p0, .int p1, .ref o]) ++ List.replicate (5 - (lg_sl ([.ref b, .int p0, .int p1, .ref o])).length) Slot.unset).toArray = ls at hl ⊢
  have hl : lv_has ls 5 [(0, .ref b), (1, .int p0), (2, .int p1), (3, .ref o)] := hl
  have hS : va_S (wr_A σ o) s.heap s.heap [] := va_S.rf
  refine lv_aload_n hx hb dL_crash_0 rfl (lv_at hl 3 rfl) ?_
  refine lv_iconst (v := 0) hx hb dL_crash_1 (by decide) ?_
  refine lv_aload_n hx hb dL_crash_2 rfl (lv_at hl 0 rfl) ?_
  refine lv_iload_n hx hb dL_crash_3 rfl (lv_at hl 1 rfl) ?_
  refine lv_iload_n hx hb dL_crash_4 rfl (lv_at hl 2 rfl) ?_
  refine lw_V (As := [.int p0, .int p1]) (rest := [.int 0, .ref o]) C hr (by decide) rfl rfl (show 3 ≤ mj_mL (tb ar) 49 from Nat.le_of_ble_eq_true rfl) (fun w hw => by simp only [List.mem_cons, List.not_mem_nil, or_false] at hw; rcases hw with rfl | rfl <;> rfl) lk_crash hb1 hH hS wr_dm (wr_new hH.1) ⟨Nat.le_refl _, Nat.le_refl _⟩ hl.1 (Nat.le_of_ble_eq_true rfl) dL_crash_5 ⟨Nat.le_of_eq (Nat.zero_add _), Nat.le_of_eq (Nat.zero_add _)⟩ (fun H1 locs1 hH1 hS1 hz hk => ?_)
  rw [Nat.zero_add, Nat.zero_add]
  refine lv_i2l (v := v.toInt64) hx hb dL_crash_8 rfl ?_
  have hlt : o < s.heap.size := by
    rw [← hH.1]
    exact Nat.not_le.mp (fun q => ho (Or.inr q))
  have ho1 : H1[o]? = some (arrV cL 1 f0) := by rw [hk o hlt ho]; exact hof
  refine W.last hx hb ho1 (hLo 1 f0) (fun q => by cases q) (by show ¬ ((0 : Int32) < 0 ∨ (arrV _ _ _).slots.size ≤ _); rw [arrV_size]; decide) rfl rfl dL_crash_9 (fun H2 e2 z2 o2 => ?_)
  have hS2 := hS1.put (k := Int32.toNatClampNeg 0) z2 o2 (show wr_A σ o o from Or.inr rfl)
  refine lv_goto (tgt := 17) hx hb dL_crash_10 rfl ?_
  refine lv_iconst (v := 0) hx hb dL_crash_17 (by decide) ?_
  refine vx_ret ?_
  exact W.iret (v := 0) hx hb hret (fun t ht hW => ⟨rfl, ⟨⟨_, by rw [ht, e2, arrV_store], rfl⟩, ⟨⟨_, by rw [ht, e2, arrV_store]⟩, fun a x hx => by rw [ht]; exact (hH1.2 a x hx).kept (o2 a (fun e => ho2 x (e ▸ hx)))⟩, by rw [ht, z2, ← hH1.1]; exact Nat.le_refl _⟩, hS2.F ht⟩) hS2.2.2 dL_crash_18
theorem Lx_crash_x_ix (hlt : l.stackTraces = false) (hr : mj_R (tb ar) 49 (mj_en (tb ar) 49 (.ref b :: [.int p0, .int p1]) σ) (.inr x_ix, σ1)) (hb1 : σ.2.2 b = some (.inr (9, fs))) (ho : ¬ mj_A σ o) : vx_Met l yL_crash (wr_ws yL_crash cL_crash 5 [(0, 10, 13, 13)]) (wr_rm ar 49 (σ1.1 - σ.1 + 1) (σ1.2.1 - σ.2.1 + 6)) (wr_Px ar D cL σ [.ref b, .int p0, .int p1, .ref o] o) (wr_Q σ o 1 (wr_K2 D cL o σ1)) wr_No (σ1.1 - σ.1 + 1) (σ1.2.1 - σ.2.1 + 6) (wr_A σ o) := by
  refine vx_ofWH (cc := cL_crash) (maxL := 5) (ret := some .int) (hh := [(0, 10, 13, 13)]) (by decide) rfl ?_
  intro p e s m args below meth c s₁ B hml hv
  obtain ⟨⟨rfl, hH, ⟨f0, hof⟩, hK, hKA, hN, -⟩, hXP, hNc⟩ := hv
  have hts := atoms_spec (ws := wr_ws yL_crash cL_crash 5 [(0, 10, 13, 13)]) B.pre
  have hown : s.vm.findClass RL = some m.cls := findClass_of_methodNamed B.named
  have hx := B.exec
  have hb := B.bytes
  have hret := B.returns
  have hlocks := B.notSynchronized
  have C : lw_C p s m ([.ref b, .int p0, .int p1, .ref o] : List Value).toArray c cL_crash 5 ar D := ⟨hx, hb, hml, hown, fun w hw => hts w (List.mem_cons_of_mem _ hw), hK, hKA, hN⟩
  have hl := lv_entry ([.ref b, .int p0, .int p1, .ref o]) (n := 5) (Nat.le_of_ble_eq_true rfl)
  rw [lg_entry_eq]
  generalize (lg_sl ([.ref b, .int p0, .int p1, .ref o]) ++ List.replicate (5 - (lg_sl ([.ref b, .int p0, .int p1, .ref o])).length) Slot.unset).toArray = ls at hl ⊢
  have hl : lv_has ls 5 [(0, .ref b), (1, .int p0), (2, .int p1), (3, .ref o)] := hl
  have hS : va_S (wr_A σ o) s.heap s.heap [] := va_S.rf
  refine lv_aload_n hx hb dL_crash_0 rfl (lv_at hl 3 rfl) ?_
  refine lv_iconst (v := 0) hx hb dL_crash_1 (by decide) ?_
  refine lv_aload_n hx hb dL_crash_2 rfl (lv_at hl 0 rfl) ?_
  refine lv_iload_n hx hb dL_crash_3 rfl (lv_at hl 1 rfl) ?_
  refine lv_iload_n hx hb dL_crash_4 rfl (lv_at hl 2 rfl) ?_
  refine lw_X (As := [.int p0, .int p1]) (rest := [.int 0, .ref o]) hlt C hr (by decide) rfl rfl (show 3 ≤ mj_mL (tb ar) 49 from Nat.le_of_ble_eq_true rfl) (fun w hw => by simp only [List.mem_cons, List.not_mem_nil, or_false] at hw; rcases hw with rfl | rfl <;> rfl) lk_crash hb1 hH hXP hS wr_dm (wr_new hH.1) ⟨Nat.le_refl _, Nat.le_refl _⟩ hl.1 (Nat.le_of_ble_eq_true rfl) dL_crash_5 ⟨Nat.le_of_eq (Nat.zero_add _), Nat.le_of_eq (Nat.zero_add _)⟩ (fun H1 locs1 ce q9 hcell hS1 hz hk hce hcv hcl => ?_)
  rw [Nat.zero_add, Nat.zero_add]
  refine vx_catch (own := RL) (name := x_ix) hown [] ⟨0, 10, 13, 13⟩ [] (by rw [vx_table (x := yL_cell) B (hts _ List.mem_cons_self)]; rfl) (fun z hz => by cases hz) (by decide) (by decide) (hts _ (List.mem_cons_of_mem _ (show Cond.classLink RL 13 x_ix ∈ tb_W by decide +kernel))) (va_tabs rfl rfl (hN (Cond.castable x_ix x_ix) (by decide +kernel))) hce hcv hcl ?_
  refine lv_astore (lv' := (4, .ref q9) :: [(0, .ref b), (1, .int p0), (2, .int p1), (3, .ref o)]) hx hb dL_crash_13 hl (by decide) rfl (fun ls hl => ?_)
  refine lv_iconst (v := 1) hx hb dL_crash_15 (by decide) ?_
  refine vx_ret ?_
  exact W.iret (v := 1) hx hb hret (fun t ht hW => ⟨rfl, ⟨⟨f0, by rw [ht, hk o (by rw [← hH.1]; exact Nat.not_le.mp (fun q => ho (Or.inr q))) ho]; exact hof⟩, fun a x hx => by rw [ht]; exact hcell a x hx⟩, hS1.F ht⟩) hS1.2.2 dL_crash_16
theorem lk_message : Cond.methodLink RL 39 (tb_Y 51) ∈ tb_W := by decide +kernel
theorem Lr_message (hr : mj_R (tb ar) 51 (mj_en (tb ar) 51 (.ref b :: [.int p0, .int p1]) σ) (.inl (some (.int v)), σ1)) (hb1 : σ.2.2 b = some (.inr (9, fs))) (ho : ¬ mj_A σ o) (ho2 : ∀ x, ¬ σ1.2.2 o = some x) : vx_Met l yL_message (wr_ws yL_message cL_message 5 [(0, 10, 13, 13)]) (wr_rm ar 51 (σ1.1 - σ.1) (σ1.2.1 - σ.2.1)) (wr_Pc ar D cL σ [.ref b, .int p0, .int p1, .ref o] o) (wr_Q σ o 0 (fun H => wr_K cL o v.toInt64 H ∧ wr_K2 D cL o σ1 H ∧ σ1.1 ≤ H.size)) wr_No (σ1.1 - σ.1) (σ1.2.1 - σ.2.1) (wr_A σ o) := by
  refine vx_ofWH (cc := cL_message) (maxL := 5) (ret := some .int) (hh := [(0, 10, 13, 13)]) (by decide) rfl ?_
  intro p e s m args below meth c s₁ B hml hv
  obtain ⟨rfl, hH, ⟨f0, hof⟩, hK, hKA, hN, hLo⟩ := hv
  have hts := atoms_spec (ws := wr_ws yL_message cL_message 5 [(0, 10, 13, 13)]) B.pre
  have hown : s.vm.findClass RL = some m.cls := findClass_of_methodNamed B.named
  have hx := B.exec
  have hb := B.bytes
  have hret := B.returns
  have hlocks := B.notSynchronized
  have C : lw_C p s m ([.ref b, .int p0, .int p1, .ref o] : List Value).toArray c cL_message 5 ar D := ⟨hx, hb, hml, hown, fun w hw => hts w (List.mem_cons_of_mem _ hw), hK, hKA, hN⟩
  have hl := lv_entry ([.ref b, .int p0, .int p1, .ref o]) (n := 5) (Nat.le_of_ble_eq_true rfl)
  rw [lg_entry_eq]
  generalize (lg_sl ([.ref b, .int p0, .int p1, .ref o]) ++ List.replicate (5 - (lg_sl ([.ref b, .int p0, .int p1, .ref o])).length) Slot.unset).toArray = ls at hl ⊢
  have hl : lv_has ls 5 [(0, .ref b), (1, .int p0), (2, .int p1), (3, .ref o)] := hl
  have hS : va_S (wr_A σ o) s.heap s.heap [] := va_S.rf
  refine lv_aload_n hx hb dL_message_0 rfl (lv_at hl 3 rfl) ?_
  refine lv_iconst (v := 0) hx hb dL_message_1 (by decide) ?_
  refine lv_aload_n hx hb dL_message_2 rfl (lv_at hl 0 rfl) ?_
  refine lv_iload_n hx hb dL_message_3 rfl (lv_at hl 1 rfl) ?_
  refine lv_iload_n hx hb dL_message_4 rfl (lv_at hl 2 rfl) ?_
  refine lw_V (As := [.int p0, .int p1]) (rest := [.int 0, .ref o]) C hr (by decide) rfl rfl (show 3 ≤ mj_mL (tb ar) 51 from Nat.le_of_ble_eq_true rfl) (fun w hw => by simp only [List.mem_cons, List.not_mem_nil, or_false] at hw; rcases hw with rfl | rfl <;> rfl) lk_message hb1 hH hS wr_dm (wr_new hH.1) ⟨Nat.le_refl _, Nat.le_refl _⟩ hl.1 (Nat.le_of_ble_eq_true rfl) dL_message_5 ⟨Nat.le_of_eq (Nat.zero_add _), Nat.le_of_eq (Nat.zero_add _)⟩ (fun H1 locs1 hH1 hS1 hz hk => ?_)
  rw [Nat.zero_add, Nat.zero_add]
  refine lv_i2l (v := v.toInt64) hx hb dL_message_8 rfl ?_
  have hlt : o < s.heap.size := by
    rw [← hH.1]
    exact Nat.not_le.mp (fun q => ho (Or.inr q))
  have ho1 : H1[o]? = some (arrV cL 1 f0) := by rw [hk o hlt ho]; exact hof
  refine W.last hx hb ho1 (hLo 1 f0) (fun q => by cases q) (by show ¬ ((0 : Int32) < 0 ∨ (arrV _ _ _).slots.size ≤ _); rw [arrV_size]; decide) rfl rfl dL_message_9 (fun H2 e2 z2 o2 => ?_)
  have hS2 := hS1.put (k := Int32.toNatClampNeg 0) z2 o2 (show wr_A σ o o from Or.inr rfl)
  refine lv_goto (tgt := 17) hx hb dL_message_10 rfl ?_
  refine lv_iconst (v := 0) hx hb dL_message_17 (by decide) ?_
  refine vx_ret ?_
  exact W.iret (v := 0) hx hb hret (fun t ht hW => ⟨rfl, ⟨⟨_, by rw [ht, e2, arrV_store], rfl⟩, ⟨⟨_, by rw [ht, e2, arrV_store]⟩, fun a x hx => by rw [ht]; exact (hH1.2 a x hx).kept (o2 a (fun e => ho2 x (e ▸ hx)))⟩, by rw [ht, z2, ← hH1.1]; exact Nat.le_refl _⟩, hS2.F ht⟩) hS2.2.2 dL_message_18
theorem Lx_message_x_ix (hlt : l.stackTraces = false) (hr : mj_R (tb ar) 51 (mj_en (tb ar) 51 (.ref b :: [.int p0, .int p1]) σ) (.inr x_ix, σ1)) (hb1 : σ.2.2 b = some (.inr (9, fs))) (ho : ¬ mj_A σ o) : vx_Met l yL_message (wr_ws yL_message cL_message 5 [(0, 10, 13, 13)]) (wr_rm ar 51 (σ1.1 - σ.1 + 1) (σ1.2.1 - σ.2.1 + 6)) (wr_Px ar D cL σ [.ref b, .int p0, .int p1, .ref o] o) (wr_Q σ o 1 (wr_K2 D cL o σ1)) wr_No (σ1.1 - σ.1 + 1) (σ1.2.1 - σ.2.1 + 6) (wr_A σ o) := by
  refine vx_ofWH (cc := cL_message) (maxL := 5) (ret := some .int) (hh := [(0, 10, 13, 13)]) (by decide) rfl ?_
  intro p e s m args below meth c s₁ B hml hv
  obtain ⟨⟨rfl, hH, ⟨f0, hof⟩, hK, hKA, hN, -⟩, hXP, hNc⟩ := hv
  have hts := atoms_spec (ws := wr_ws yL_message cL_message 5 [(0, 10, 13, 13)]) B.pre
  have hown : s.vm.findClass RL = some m.cls := findClass_of_methodNamed B.named
  have hx := B.exec
  have hb := B.bytes
  have hret := B.returns
  have hlocks := B.notSynchronized
  have C : lw_C p s m ([.ref b, .int p0, .int p1, .ref o] : List Value).toArray c cL_message 5 ar D := ⟨hx, hb, hml, hown, fun w hw => hts w (List.mem_cons_of_mem _ hw), hK, hKA, hN⟩
  have hl := lv_entry ([.ref b, .int p0, .int p1, .ref o]) (n := 5) (Nat.le_of_ble_eq_true rfl)
  rw [lg_entry_eq]
  generalize (lg_sl ([.ref b, .int p0, .int p1, .ref o]) ++ List.replicate (5 - (lg_sl ([.ref b, .int p0, .int p1, .ref o])).length) Slot.unset).toArray = ls at hl ⊢
  have hl : lv_has ls 5 [(0, .ref b), (1, .int p0), (2, .int p1), (3, .ref o)] := hl
  have hS : va_S (wr_A σ o) s.heap s.heap [] := va_S.rf
  refine lv_aload_n hx hb dL_message_0 rfl (lv_at hl 3 rfl) ?_
  refine lv_iconst (v := 0) hx hb dL_message_1 (by decide) ?_
  refine lv_aload_n hx hb dL_message_2 rfl (lv_at hl 0 rfl) ?_
  refine lv_iload_n hx hb dL_message_3 rfl (lv_at hl 1 rfl) ?_
  refine lv_iload_n hx hb dL_message_4 rfl (lv_at hl 2 rfl) ?_
  refine lw_X (As := [.int p0, .int p1]) (rest := [.int 0, .ref o]) hlt C hr (by decide) rfl rfl (show 3 ≤ mj_mL (tb ar) 51 from Nat.le_of_ble_eq_true rfl) (fun w hw => by simp only [List.mem_cons, List.not_mem_nil, or_false] at hw; rcases hw with rfl | rfl <;> rfl) lk_message hb1 hH hXP hS wr_dm (wr_new hH.1) ⟨Nat.le_refl _, Nat.le_refl _⟩ hl.1 (Nat.le_of_ble_eq_true rfl) dL_message_5 ⟨Nat.le_of_eq (Nat.zero_add _), Nat.le_of_eq (Nat.zero_add _)⟩ (fun H1 locs1 ce q9 hcell hS1 hz hk hce hcv hcl => ?_)
  rw [Nat.zero_add, Nat.zero_add]
  refine vx_catch (own := RL) (name := x_ix) hown [] ⟨0, 10, 13, 13⟩ [] (by rw [vx_table (x := yL_cell) B (hts _ List.mem_cons_self)]; rfl) (fun z hz => by cases hz) (by decide) (by decide) (hts _ (List.mem_cons_of_mem _ (show Cond.classLink RL 13 x_ix ∈ tb_W by decide +kernel))) (va_tabs rfl rfl (hN (Cond.castable x_ix x_ix) (by decide +kernel))) hce hcv hcl ?_
  refine lv_astore (lv' := (4, .ref q9) :: [(0, .ref b), (1, .int p0), (2, .int p1), (3, .ref o)]) hx hb dL_message_13 hl (by decide) rfl (fun ls hl => ?_)
  refine lv_iconst (v := 1) hx hb dL_message_15 (by decide) ?_
  refine vx_ret ?_
  exact W.iret (v := 1) hx hb hret (fun t ht hW => ⟨rfl, ⟨⟨f0, by rw [ht, hk o (by rw [← hH.1]; exact Nat.not_le.mp (fun q => ho (Or.inr q))) ho]; exact hof⟩, fun a x hx => by rw [ht]; exact hcell a x hx⟩, hS1.F ht⟩) hS1.2.2 dL_message_16
theorem lk_decided : Cond.methodLink RL 42 (tb_Y 52) ∈ tb_W := by decide +kernel
theorem Lr_decided (hr : mj_R (tb ar) 52 (mj_en (tb ar) 52 (.ref b :: [.int p0, .int p1]) σ) (.inl (some (.int v)), σ1)) (hb1 : σ.2.2 b = some (.inr (9, fs))) (ho : ¬ mj_A σ o) (ho2 : ∀ x, ¬ σ1.2.2 o = some x) : vx_Met l yL_decided (wr_ws yL_decided cL_decided 5 [(0, 10, 13, 13)]) (wr_rm ar 52 (σ1.1 - σ.1) (σ1.2.1 - σ.2.1)) (wr_Pc ar D cL σ [.ref b, .int p0, .int p1, .ref o] o) (wr_Q σ o 0 (fun H => wr_K cL o v.toInt64 H ∧ wr_K2 D cL o σ1 H ∧ σ1.1 ≤ H.size)) wr_No (σ1.1 - σ.1) (σ1.2.1 - σ.2.1) (wr_A σ o) := by
  refine vx_ofWH (cc := cL_decided) (maxL := 5) (ret := some .int) (hh := [(0, 10, 13, 13)]) (by decide) rfl ?_
  intro p e s m args below meth c s₁ B hml hv
  obtain ⟨rfl, hH, ⟨f0, hof⟩, hK, hKA, hN, hLo⟩ := hv
  have hts := atoms_spec (ws := wr_ws yL_decided cL_decided 5 [(0, 10, 13, 13)]) B.pre
  have hown : s.vm.findClass RL = some m.cls := findClass_of_methodNamed B.named
  have hx := B.exec
  have hb := B.bytes
  have hret := B.returns
  have hlocks := B.notSynchronized
  have C : lw_C p s m ([.ref b, .int p0, .int p1, .ref o] : List Value).toArray c cL_decided 5 ar D := ⟨hx, hb, hml, hown, fun w hw => hts w (List.mem_cons_of_mem _ hw), hK, hKA, hN⟩
  have hl := lv_entry ([.ref b, .int p0, .int p1, .ref o]) (n := 5) (Nat.le_of_ble_eq_true rfl)
  rw [lg_entry_eq]
  generalize (lg_sl ([.ref b, .int p0, .int p1, .ref o]) ++ List.replicate (5 - (lg_sl ([.ref b, .int p0, .int p1, .ref o])).length) Slot.unset).toArray = ls at hl ⊢
  have hl : lv_has ls 5 [(0, .ref b), (1, .int p0), (2, .int p1), (3, .ref o)] := hl
  have hS : va_S (wr_A σ o) s.heap s.heap [] := va_S.rf
  refine lv_aload_n hx hb dL_decided_0 rfl (lv_at hl 3 rfl) ?_
  refine lv_iconst (v := 0) hx hb dL_decided_1 (by decide) ?_
  refine lv_aload_n hx hb dL_decided_2 rfl (lv_at hl 0 rfl) ?_
  refine lv_iload_n hx hb dL_decided_3 rfl (lv_at hl 1 rfl) ?_
  refine lv_iload_n hx hb dL_decided_4 rfl (lv_at hl 2 rfl) ?_
  refine lw_V (As := [.int p0, .int p1]) (rest := [.int 0, .ref o]) C hr (by decide) rfl rfl (show 3 ≤ mj_mL (tb ar) 52 from Nat.le_of_ble_eq_true rfl) (fun w hw => by simp only [List.mem_cons, List.not_mem_nil, or_false] at hw; rcases hw with rfl | rfl <;> rfl) lk_decided hb1 hH hS wr_dm (wr_new hH.1) ⟨Nat.le_refl _, Nat.le_refl _⟩ hl.1 (Nat.le_of_ble_eq_true rfl) dL_decided_5 ⟨Nat.le_of_eq (Nat.zero_add _), Nat.le_of_eq (Nat.zero_add _)⟩ (fun H1 locs1 hH1 hS1 hz hk => ?_)
  rw [Nat.zero_add, Nat.zero_add]
  refine lv_i2l (v := v.toInt64) hx hb dL_decided_8 rfl ?_
  have hlt : o < s.heap.size := by
    rw [← hH.1]
    exact Nat.not_le.mp (fun q => ho (Or.inr q))
  have ho1 : H1[o]? = some (arrV cL 1 f0) := by rw [hk o hlt ho]; exact hof
  refine W.last hx hb ho1 (hLo 1 f0) (fun q => by cases q) (by show ¬ ((0 : Int32) < 0 ∨ (arrV _ _ _).slots.size ≤ _); rw [arrV_size]; decide) rfl rfl dL_decided_9 (fun H2 e2 z2 o2 => ?_)
  have hS2 := hS1.put (k := Int32.toNatClampNeg 0) z2 o2 (show wr_A σ o o from Or.inr rfl)
  refine lv_goto (tgt := 17) hx hb dL_decided_10 rfl ?_
  refine lv_iconst (v := 0) hx hb dL_decided_17 (by decide) ?_
  refine vx_ret ?_
  exact W.iret (v := 0) hx hb hret (fun t ht hW => ⟨rfl, ⟨⟨_, by rw [ht, e2, arrV_store], rfl⟩, ⟨⟨_, by rw [ht, e2, arrV_store]⟩, fun a x hx => by rw [ht]; exact (hH1.2 a x hx).kept (o2 a (fun e => ho2 x (e ▸ hx)))⟩, by rw [ht, z2, ← hH1.1]; exact Nat.le_refl _⟩, hS2.F ht⟩) hS2.2.2 dL_decided_18
theorem Lx_decided_x_ix (hlt : l.stackTraces = false) (hr : mj_R (tb ar) 52 (mj_en (tb ar) 52 (.ref b :: [.int p0, .int p1]) σ) (.inr x_ix, σ1)) (hb1 : σ.2.2 b = some (.inr (9, fs))) (ho : ¬ mj_A σ o) : vx_Met l yL_decided (wr_ws yL_decided cL_decided 5 [(0, 10, 13, 13)]) (wr_rm ar 52 (σ1.1 - σ.1 + 1) (σ1.2.1 - σ.2.1 + 6)) (wr_Px ar D cL σ [.ref b, .int p0, .int p1, .ref o] o) (wr_Q σ o 1 (wr_K2 D cL o σ1)) wr_No (σ1.1 - σ.1 + 1) (σ1.2.1 - σ.2.1 + 6) (wr_A σ o) := by
  refine vx_ofWH (cc := cL_decided) (maxL := 5) (ret := some .int) (hh := [(0, 10, 13, 13)]) (by decide) rfl ?_
  intro p e s m args below meth c s₁ B hml hv
  obtain ⟨⟨rfl, hH, ⟨f0, hof⟩, hK, hKA, hN, -⟩, hXP, hNc⟩ := hv
  have hts := atoms_spec (ws := wr_ws yL_decided cL_decided 5 [(0, 10, 13, 13)]) B.pre
  have hown : s.vm.findClass RL = some m.cls := findClass_of_methodNamed B.named
  have hx := B.exec
  have hb := B.bytes
  have hret := B.returns
  have hlocks := B.notSynchronized
  have C : lw_C p s m ([.ref b, .int p0, .int p1, .ref o] : List Value).toArray c cL_decided 5 ar D := ⟨hx, hb, hml, hown, fun w hw => hts w (List.mem_cons_of_mem _ hw), hK, hKA, hN⟩
  have hl := lv_entry ([.ref b, .int p0, .int p1, .ref o]) (n := 5) (Nat.le_of_ble_eq_true rfl)
  rw [lg_entry_eq]
  generalize (lg_sl ([.ref b, .int p0, .int p1, .ref o]) ++ List.replicate (5 - (lg_sl ([.ref b, .int p0, .int p1, .ref o])).length) Slot.unset).toArray = ls at hl ⊢
  have hl : lv_has ls 5 [(0, .ref b), (1, .int p0), (2, .int p1), (3, .ref o)] := hl
  have hS : va_S (wr_A σ o) s.heap s.heap [] := va_S.rf
  refine lv_aload_n hx hb dL_decided_0 rfl (lv_at hl 3 rfl) ?_
  refine lv_iconst (v := 0) hx hb dL_decided_1 (by decide) ?_
  refine lv_aload_n hx hb dL_decided_2 rfl (lv_at hl 0 rfl) ?_
  refine lv_iload_n hx hb dL_decided_3 rfl (lv_at hl 1 rfl) ?_
  refine lv_iload_n hx hb dL_decided_4 rfl (lv_at hl 2 rfl) ?_
  refine lw_X (As := [.int p0, .int p1]) (rest := [.int 0, .ref o]) hlt C hr (by decide) rfl rfl (show 3 ≤ mj_mL (tb ar) 52 from Nat.le_of_ble_eq_true rfl) (fun w hw => by simp only [List.mem_cons, List.not_mem_nil, or_false] at hw; rcases hw with rfl | rfl <;> rfl) lk_decided hb1 hH hXP hS wr_dm (wr_new hH.1) ⟨Nat.le_refl _, Nat.le_refl _⟩ hl.1 (Nat.le_of_ble_eq_true rfl) dL_decided_5 ⟨Nat.le_of_eq (Nat.zero_add _), Nat.le_of_eq (Nat.zero_add _)⟩ (fun H1 locs1 ce q9 hcell hS1 hz hk hce hcv hcl => ?_)
  rw [Nat.zero_add, Nat.zero_add]
  refine vx_catch (own := RL) (name := x_ix) hown [] ⟨0, 10, 13, 13⟩ [] (by rw [vx_table (x := yL_cell) B (hts _ List.mem_cons_self)]; rfl) (fun z hz => by cases hz) (by decide) (by decide) (hts _ (List.mem_cons_of_mem _ (show Cond.classLink RL 13 x_ix ∈ tb_W by decide +kernel))) (va_tabs rfl rfl (hN (Cond.castable x_ix x_ix) (by decide +kernel))) hce hcv hcl ?_
  refine lv_astore (lv' := (4, .ref q9) :: [(0, .ref b), (1, .int p0), (2, .int p1), (3, .ref o)]) hx hb dL_decided_13 hl (by decide) rfl (fun ls hl => ?_)
  refine lv_iconst (v := 1) hx hb dL_decided_15 (by decide) ?_
  refine vx_ret ?_
  exact W.iret (v := 1) hx hb hret (fun t ht hW => ⟨rfl, ⟨⟨f0, by rw [ht, hk o (by rw [← hH.1]; exact Nat.not_le.mp (fun q => ho (Or.inr q))) ho]; exact hof⟩, fun a x hx => by rw [ht]; exact hcell a x hx⟩, hS1.F ht⟩) hS1.2.2 dL_decided_16
theorem lk_about : Cond.methodLink RL 45 (tb_Y 53) ∈ tb_W := by decide +kernel
theorem Lr_about (hr : mj_R (tb ar) 53 (mj_en (tb ar) 53 (.ref b :: [.int p0, .int p1]) σ) (.inl (some (.int v)), σ1)) (hb1 : σ.2.2 b = some (.inr (9, fs))) (ho : ¬ mj_A σ o) (ho2 : ∀ x, ¬ σ1.2.2 o = some x) : vx_Met l yL_about (wr_ws yL_about cL_about 5 [(0, 10, 13, 13)]) (wr_rm ar 53 (σ1.1 - σ.1) (σ1.2.1 - σ.2.1)) (wr_Pc ar D cL σ [.ref b, .int p0, .int p1, .ref o] o) (wr_Q σ o 0 (fun H => wr_K cL o v.toInt64 H ∧ wr_K2 D cL o σ1 H ∧ σ1.1 ≤ H.size)) wr_No (σ1.1 - σ.1) (σ1.2.1 - σ.2.1) (wr_A σ o) := by
  refine vx_ofWH (cc := cL_about) (maxL := 5) (ret := some .int) (hh := [(0, 10, 13, 13)]) (by decide) rfl ?_
  intro p e s m args below meth c s₁ B hml hv
  obtain ⟨rfl, hH, ⟨f0, hof⟩, hK, hKA, hN, hLo⟩ := hv
  have hts := atoms_spec (ws := wr_ws yL_about cL_about 5 [(0, 10, 13, 13)]) B.pre
  have hown : s.vm.findClass RL = some m.cls := findClass_of_methodNamed B.named
  have hx := B.exec
  have hb := B.bytes
  have hret := B.returns
  have hlocks := B.notSynchronized
  have C : lw_C p s m ([.ref b, .int p0, .int p1, .ref o] : List Value).toArray c cL_about 5 ar D := ⟨hx, hb, hml, hown, fun w hw => hts w (List.mem_cons_of_mem _ hw), hK, hKA, hN⟩
  have hl := lv_entry ([.ref b, .int p0, .int p1, .ref o]) (n := 5) (Nat.le_of_ble_eq_true rfl)
  rw [lg_entry_eq]
  generalize (lg_sl ([.ref b, .int p0, .int p1, .ref o]) ++ List.replicate (5 - (lg_sl ([.ref b, .int p0, .int p1, .ref o])).length) Slot.unset).toArray = ls at hl ⊢
  have hl : lv_has ls 5 [(0, .ref b), (1, .int p0), (2, .int p1), (3, .ref o)] := hl
  have hS : va_S (wr_A σ o) s.heap s.heap [] := va_S.rf
  refine lv_aload_n hx hb dL_about_0 rfl (lv_at hl 3 rfl) ?_
  refine lv_iconst (v := 0) hx hb dL_about_1 (by decide) ?_
  refine lv_aload_n hx hb dL_about_2 rfl (lv_at hl 0 rfl) ?_
  refine lv_iload_n hx hb dL_about_3 rfl (lv_at hl 1 rfl) ?_
  refine lv_iload_n hx hb dL_about_4 rfl (lv_at hl 2 rfl) ?_
  refine lw_V (As := [.int p0, .int p1]) (rest := [.int 0, .ref o]) C hr (by decide) rfl rfl (show 3 ≤ mj_mL (tb ar) 53 from Nat.le_of_ble_eq_true rfl) (fun w hw => by simp only [List.mem_cons, List.not_mem_nil, or_false] at hw; rcases hw with rfl | rfl <;> rfl) lk_about hb1 hH hS wr_dm (wr_new hH.1) ⟨Nat.le_refl _, Nat.le_refl _⟩ hl.1 (Nat.le_of_ble_eq_true rfl) dL_about_5 ⟨Nat.le_of_eq (Nat.zero_add _), Nat.le_of_eq (Nat.zero_add _)⟩ (fun H1 locs1 hH1 hS1 hz hk => ?_)
  rw [Nat.zero_add, Nat.zero_add]
  refine lv_i2l (v := v.toInt64) hx hb dL_about_8 rfl ?_
  have hlt : o < s.heap.size := by
    rw [← hH.1]
    exact Nat.not_le.mp (fun q => ho (Or.inr q))
  have ho1 : H1[o]? = some (arrV cL 1 f0) := by rw [hk o hlt ho]; exact hof
  refine W.last hx hb ho1 (hLo 1 f0) (fun q => by cases q) (by show ¬ ((0 : Int32) < 0 ∨ (arrV _ _ _).slots.size ≤ _); rw [arrV_size]; decide) rfl rfl dL_about_9 (fun H2 e2 z2 o2 => ?_)
  have hS2 := hS1.put (k := Int32.toNatClampNeg 0) z2 o2 (show wr_A σ o o from Or.inr rfl)
  refine lv_goto (tgt := 17) hx hb dL_about_10 rfl ?_
  refine lv_iconst (v := 0) hx hb dL_about_17 (by decide) ?_
  refine vx_ret ?_
  exact W.iret (v := 0) hx hb hret (fun t ht hW => ⟨rfl, ⟨⟨_, by rw [ht, e2, arrV_store], rfl⟩, ⟨⟨_, by rw [ht, e2, arrV_store]⟩, fun a x hx => by rw [ht]; exact (hH1.2 a x hx).kept (o2 a (fun e => ho2 x (e ▸ hx)))⟩, by rw [ht, z2, ← hH1.1]; exact Nat.le_refl _⟩, hS2.F ht⟩) hS2.2.2 dL_about_18
theorem Lx_about_x_ix (hlt : l.stackTraces = false) (hr : mj_R (tb ar) 53 (mj_en (tb ar) 53 (.ref b :: [.int p0, .int p1]) σ) (.inr x_ix, σ1)) (hb1 : σ.2.2 b = some (.inr (9, fs))) (ho : ¬ mj_A σ o) : vx_Met l yL_about (wr_ws yL_about cL_about 5 [(0, 10, 13, 13)]) (wr_rm ar 53 (σ1.1 - σ.1 + 1) (σ1.2.1 - σ.2.1 + 6)) (wr_Px ar D cL σ [.ref b, .int p0, .int p1, .ref o] o) (wr_Q σ o 1 (wr_K2 D cL o σ1)) wr_No (σ1.1 - σ.1 + 1) (σ1.2.1 - σ.2.1 + 6) (wr_A σ o) := by
  refine vx_ofWH (cc := cL_about) (maxL := 5) (ret := some .int) (hh := [(0, 10, 13, 13)]) (by decide) rfl ?_
  intro p e s m args below meth c s₁ B hml hv
  obtain ⟨⟨rfl, hH, ⟨f0, hof⟩, hK, hKA, hN, -⟩, hXP, hNc⟩ := hv
  have hts := atoms_spec (ws := wr_ws yL_about cL_about 5 [(0, 10, 13, 13)]) B.pre
  have hown : s.vm.findClass RL = some m.cls := findClass_of_methodNamed B.named
  have hx := B.exec
  have hb := B.bytes
  have hret := B.returns
  have hlocks := B.notSynchronized
  have C : lw_C p s m ([.ref b, .int p0, .int p1, .ref o] : List Value).toArray c cL_about 5 ar D := ⟨hx, hb, hml, hown, fun w hw => hts w (List.mem_cons_of_mem _ hw), hK, hKA, hN⟩
  have hl := lv_entry ([.ref b, .int p0, .int p1, .ref o]) (n := 5) (Nat.le_of_ble_eq_true rfl)
  rw [lg_entry_eq]
  generalize (lg_sl ([.ref b, .int p0, .int p1, .ref o]) ++ List.replicate (5 - (lg_sl ([.ref b, .int p0, .int p1, .ref o])).length) Slot.unset).toArray = ls at hl ⊢
  have hl : lv_has ls 5 [(0, .ref b), (1, .int p0), (2, .int p1), (3, .ref o)] := hl
  have hS : va_S (wr_A σ o) s.heap s.heap [] := va_S.rf
  refine lv_aload_n hx hb dL_about_0 rfl (lv_at hl 3 rfl) ?_
  refine lv_iconst (v := 0) hx hb dL_about_1 (by decide) ?_
  refine lv_aload_n hx hb dL_about_2 rfl (lv_at hl 0 rfl) ?_
  refine lv_iload_n hx hb dL_about_3 rfl (lv_at hl 1 rfl) ?_
  refine lv_iload_n hx hb dL_about_4 rfl (lv_at hl 2 rfl) ?_
  refine lw_X (As := [.int p0, .int p1]) (rest := [.int 0, .ref o]) hlt C hr (by decide) rfl rfl (show 3 ≤ mj_mL (tb ar) 53 from Nat.le_of_ble_eq_true rfl) (fun w hw => by simp only [List.mem_cons, List.not_mem_nil, or_false] at hw; rcases hw with rfl | rfl <;> rfl) lk_about hb1 hH hXP hS wr_dm (wr_new hH.1) ⟨Nat.le_refl _, Nat.le_refl _⟩ hl.1 (Nat.le_of_ble_eq_true rfl) dL_about_5 ⟨Nat.le_of_eq (Nat.zero_add _), Nat.le_of_eq (Nat.zero_add _)⟩ (fun H1 locs1 ce q9 hcell hS1 hz hk hce hcv hcl => ?_)
  rw [Nat.zero_add, Nat.zero_add]
  refine vx_catch (own := RL) (name := x_ix) hown [] ⟨0, 10, 13, 13⟩ [] (by rw [vx_table (x := yL_cell) B (hts _ List.mem_cons_self)]; rfl) (fun z hz => by cases hz) (by decide) (by decide) (hts _ (List.mem_cons_of_mem _ (show Cond.classLink RL 13 x_ix ∈ tb_W by decide +kernel))) (va_tabs rfl rfl (hN (Cond.castable x_ix x_ix) (by decide +kernel))) hce hcv hcl ?_
  refine lv_astore (lv' := (4, .ref q9) :: [(0, .ref b), (1, .int p0), (2, .int p1), (3, .ref o)]) hx hb dL_about_13 hl (by decide) rfl (fun ls hl => ?_)
  refine lv_iconst (v := 1) hx hb dL_about_15 (by decide) ?_
  refine vx_ret ?_
  exact W.iret (v := 1) hx hb hret (fun t ht hW => ⟨rfl, ⟨⟨f0, by rw [ht, hk o (by rw [← hH.1]; exact Nat.not_le.mp (fun q => ho (Or.inr q))) ho]; exact hof⟩, fun a x hx => by rw [ht]; exact hcell a x hx⟩, hS1.F ht⟩) hS1.2.2 dL_about_16
theorem lk_accepted : Cond.methodLink RL 48 (tb_Y 54) ∈ tb_W := by decide +kernel
theorem Lr_accepted (hr : mj_R (tb ar) 54 (mj_en (tb ar) 54 (.ref b :: [.int p0, .int p1, .int p2]) σ) (.inl (some (.int v)), σ1)) (hb1 : σ.2.2 b = some (.inr (9, fs))) (ho : ¬ mj_A σ o) (ho2 : ∀ x, ¬ σ1.2.2 o = some x) : vx_Met l yL_accepted (wr_ws yL_accepted cL_accepted 6 [(0, 12, 15, 13)]) (wr_rm ar 54 (σ1.1 - σ.1) (σ1.2.1 - σ.2.1)) (wr_Pc ar D cL σ [.ref b, .int p0, .int p1, .int p2, .ref o] o) (wr_Q σ o 0 (fun H => wr_K cL o v.toInt64 H ∧ wr_K2 D cL o σ1 H ∧ σ1.1 ≤ H.size)) wr_No (σ1.1 - σ.1) (σ1.2.1 - σ.2.1) (wr_A σ o) := by
  refine vx_ofWH (cc := cL_accepted) (maxL := 6) (ret := some .int) (hh := [(0, 12, 15, 13)]) (by decide) rfl ?_
  intro p e s m args below meth c s₁ B hml hv
  obtain ⟨rfl, hH, ⟨f0, hof⟩, hK, hKA, hN, hLo⟩ := hv
  have hts := atoms_spec (ws := wr_ws yL_accepted cL_accepted 6 [(0, 12, 15, 13)]) B.pre
  have hown : s.vm.findClass RL = some m.cls := findClass_of_methodNamed B.named
  have hx := B.exec
  have hb := B.bytes
  have hret := B.returns
  have hlocks := B.notSynchronized
  have C : lw_C p s m ([.ref b, .int p0, .int p1, .int p2, .ref o] : List Value).toArray c cL_accepted 6 ar D := ⟨hx, hb, hml, hown, fun w hw => hts w (List.mem_cons_of_mem _ hw), hK, hKA, hN⟩
  have hl := lv_entry ([.ref b, .int p0, .int p1, .int p2, .ref o]) (n := 6) (Nat.le_of_ble_eq_true rfl)
  rw [lg_entry_eq]
  generalize (lg_sl ([.ref b, .int p0, .int p1, .int p2, .ref o]) ++ List.replicate (6 - (lg_sl ([.ref b, .int p0, .int p1, .int p2, .ref o])).length) Slot.unset).toArray = ls at hl ⊢
  have hl : lv_has ls 6 [(0, .ref b), (1, .int p0), (2, .int p1), (3, .int p2), (4, .ref o)] := hl
  have hS : va_S (wr_A σ o) s.heap s.heap [] := va_S.rf
  refine lv_aload hx hb dL_accepted_0 (lv_at hl 4 rfl) ?_
  refine lv_iconst (v := 0) hx hb dL_accepted_2 (by decide) ?_
  refine lv_aload_n hx hb dL_accepted_3 rfl (lv_at hl 0 rfl) ?_
  refine lv_iload_n hx hb dL_accepted_4 rfl (lv_at hl 1 rfl) ?_
  refine lv_iload_n hx hb dL_accepted_5 rfl (lv_at hl 2 rfl) ?_
  refine lv_iload_n hx hb dL_accepted_6 rfl (lv_at hl 3 rfl) ?_
  refine lw_V (As := [.int p0, .int p1, .int p2]) (rest := [.int 0, .ref o]) C hr (by decide) rfl rfl (show 4 ≤ mj_mL (tb ar) 54 from Nat.le_of_ble_eq_true rfl) (fun w hw => by simp only [List.mem_cons, List.not_mem_nil, or_false] at hw; rcases hw with rfl | rfl | rfl <;> rfl) lk_accepted hb1 hH hS wr_dm (wr_new hH.1) ⟨Nat.le_refl _, Nat.le_refl _⟩ hl.1 (Nat.le_of_ble_eq_true rfl) dL_accepted_7 ⟨Nat.le_of_eq (Nat.zero_add _), Nat.le_of_eq (Nat.zero_add _)⟩ (fun H1 locs1 hH1 hS1 hz hk => ?_)
  rw [Nat.zero_add, Nat.zero_add]
  refine lv_i2l (v := v.toInt64) hx hb dL_accepted_10 rfl ?_
  have hlt : o < s.heap.size := by
    rw [← hH.1]
    exact Nat.not_le.mp (fun q => ho (Or.inr q))
  have ho1 : H1[o]? = some (arrV cL 1 f0) := by rw [hk o hlt ho]; exact hof
  refine W.last hx hb ho1 (hLo 1 f0) (fun q => by cases q) (by show ¬ ((0 : Int32) < 0 ∨ (arrV _ _ _).slots.size ≤ _); rw [arrV_size]; decide) rfl rfl dL_accepted_11 (fun H2 e2 z2 o2 => ?_)
  have hS2 := hS1.put (k := Int32.toNatClampNeg 0) z2 o2 (show wr_A σ o o from Or.inr rfl)
  refine lv_goto (tgt := 19) hx hb dL_accepted_12 rfl ?_
  refine lv_iconst (v := 0) hx hb dL_accepted_19 (by decide) ?_
  refine vx_ret ?_
  exact W.iret (v := 0) hx hb hret (fun t ht hW => ⟨rfl, ⟨⟨_, by rw [ht, e2, arrV_store], rfl⟩, ⟨⟨_, by rw [ht, e2, arrV_store]⟩, fun a x hx => by rw [ht]; exact (hH1.2 a x hx).kept (o2 a (fun e => ho2 x (e ▸ hx)))⟩, by rw [ht, z2, ← hH1.1]; exact Nat.le_refl _⟩, hS2.F ht⟩) hS2.2.2 dL_accepted_20
theorem Lx_accepted_x_ix (hlt : l.stackTraces = false) (hr : mj_R (tb ar) 54 (mj_en (tb ar) 54 (.ref b :: [.int p0, .int p1, .int p2]) σ) (.inr x_ix, σ1)) (hb1 : σ.2.2 b = some (.inr (9, fs))) (ho : ¬ mj_A σ o) : vx_Met l yL_accepted (wr_ws yL_accepted cL_accepted 6 [(0, 12, 15, 13)]) (wr_rm ar 54 (σ1.1 - σ.1 + 1) (σ1.2.1 - σ.2.1 + 6)) (wr_Px ar D cL σ [.ref b, .int p0, .int p1, .int p2, .ref o] o) (wr_Q σ o 1 (wr_K2 D cL o σ1)) wr_No (σ1.1 - σ.1 + 1) (σ1.2.1 - σ.2.1 + 6) (wr_A σ o) := by
  refine vx_ofWH (cc := cL_accepted) (maxL := 6) (ret := some .int) (hh := [(0, 12, 15, 13)]) (by decide) rfl ?_
  intro p e s m args below meth c s₁ B hml hv
  obtain ⟨⟨rfl, hH, ⟨f0, hof⟩, hK, hKA, hN, -⟩, hXP, hNc⟩ := hv
  have hts := atoms_spec (ws := wr_ws yL_accepted cL_accepted 6 [(0, 12, 15, 13)]) B.pre
  have hown : s.vm.findClass RL = some m.cls := findClass_of_methodNamed B.named
  have hx := B.exec
  have hb := B.bytes
  have hret := B.returns
  have hlocks := B.notSynchronized
  have C : lw_C p s m ([.ref b, .int p0, .int p1, .int p2, .ref o] : List Value).toArray c cL_accepted 6 ar D := ⟨hx, hb, hml, hown, fun w hw => hts w (List.mem_cons_of_mem _ hw), hK, hKA, hN⟩
  have hl := lv_entry ([.ref b, .int p0, .int p1, .int p2, .ref o]) (n := 6) (Nat.le_of_ble_eq_true rfl)
  rw [lg_entry_eq]
  generalize (lg_sl ([.ref b, .int p0, .int p1, .int p2, .ref o]) ++ List.replicate (6 - (lg_sl ([.ref b, .int p0, .int p1, .int p2, .ref o])).length) Slot.unset).toArray = ls at hl ⊢
  have hl : lv_has ls 6 [(0, .ref b), (1, .int p0), (2, .int p1), (3, .int p2), (4, .ref o)] := hl
  have hS : va_S (wr_A σ o) s.heap s.heap [] := va_S.rf
  refine lv_aload hx hb dL_accepted_0 (lv_at hl 4 rfl) ?_
  refine lv_iconst (v := 0) hx hb dL_accepted_2 (by decide) ?_
  refine lv_aload_n hx hb dL_accepted_3 rfl (lv_at hl 0 rfl) ?_
  refine lv_iload_n hx hb dL_accepted_4 rfl (lv_at hl 1 rfl) ?_
  refine lv_iload_n hx hb dL_accepted_5 rfl (lv_at hl 2 rfl) ?_
  refine lv_iload_n hx hb dL_accepted_6 rfl (lv_at hl 3 rfl) ?_
  refine lw_X (As := [.int p0, .int p1, .int p2]) (rest := [.int 0, .ref o]) hlt C hr (by decide) rfl rfl (show 4 ≤ mj_mL (tb ar) 54 from Nat.le_of_ble_eq_true rfl) (fun w hw => by simp only [List.mem_cons, List.not_mem_nil, or_false] at hw; rcases hw with rfl | rfl | rfl <;> rfl) lk_accepted hb1 hH hXP hS wr_dm (wr_new hH.1) ⟨Nat.le_refl _, Nat.le_refl _⟩ hl.1 (Nat.le_of_ble_eq_true rfl) dL_accepted_7 ⟨Nat.le_of_eq (Nat.zero_add _), Nat.le_of_eq (Nat.zero_add _)⟩ (fun H1 locs1 ce q9 hcell hS1 hz hk hce hcv hcl => ?_)
  rw [Nat.zero_add, Nat.zero_add]
  refine vx_catch (own := RL) (name := x_ix) hown [] ⟨0, 12, 15, 13⟩ [] (by rw [vx_table (x := yL_cell) B (hts _ List.mem_cons_self)]; rfl) (fun z hz => by cases hz) (by decide) (by decide) (hts _ (List.mem_cons_of_mem _ (show Cond.classLink RL 13 x_ix ∈ tb_W by decide +kernel))) (va_tabs rfl rfl (hN (Cond.castable x_ix x_ix) (by decide +kernel))) hce hcv hcl ?_
  refine lv_astore (lv' := (5, .ref q9) :: [(0, .ref b), (1, .int p0), (2, .int p1), (3, .int p2), (4, .ref o)]) hx hb dL_accepted_15 hl (by decide) rfl (fun ls hl => ?_)
  refine lv_iconst (v := 1) hx hb dL_accepted_17 (by decide) ?_
  refine vx_ret ?_
  exact W.iret (v := 1) hx hb hret (fun t ht hW => ⟨rfl, ⟨⟨f0, by rw [ht, hk o (by rw [← hH.1]; exact Nat.not_le.mp (fun q => ho (Or.inr q))) ho]; exact hof⟩, fun a x hx => by rw [ht]; exact hcell a x hx⟩, hS1.F ht⟩) hS1.2.2 dL_accepted_18
theorem lk_members : Cond.methodLink RL 52 (tb_Y 55) ∈ tb_W := by decide +kernel
theorem Lr_members (hr : mj_R (tb ar) 55 (mj_en (tb ar) 55 (.ref b :: [.int p0, .int p1]) σ) (.inl (some (.int v)), σ1)) (hb1 : σ.2.2 b = some (.inr (9, fs))) (ho : ¬ mj_A σ o) (ho2 : ∀ x, ¬ σ1.2.2 o = some x) : vx_Met l yL_members (wr_ws yL_members cL_members 5 [(0, 10, 13, 13)]) (wr_rm ar 55 (σ1.1 - σ.1) (σ1.2.1 - σ.2.1)) (wr_Pc ar D cL σ [.ref b, .int p0, .int p1, .ref o] o) (wr_Q σ o 0 (fun H => wr_K cL o v.toInt64 H ∧ wr_K2 D cL o σ1 H ∧ σ1.1 ≤ H.size)) wr_No (σ1.1 - σ.1) (σ1.2.1 - σ.2.1) (wr_A σ o) := by
  refine vx_ofWH (cc := cL_members) (maxL := 5) (ret := some .int) (hh := [(0, 10, 13, 13)]) (by decide) rfl ?_
  intro p e s m args below meth c s₁ B hml hv
  obtain ⟨rfl, hH, ⟨f0, hof⟩, hK, hKA, hN, hLo⟩ := hv
  have hts := atoms_spec (ws := wr_ws yL_members cL_members 5 [(0, 10, 13, 13)]) B.pre
  have hown : s.vm.findClass RL = some m.cls := findClass_of_methodNamed B.named
  have hx := B.exec
  have hb := B.bytes
  have hret := B.returns
  have hlocks := B.notSynchronized
  have C : lw_C p s m ([.ref b, .int p0, .int p1, .ref o] : List Value).toArray c cL_members 5 ar D := ⟨hx, hb, hml, hown, fun w hw => hts w (List.mem_cons_of_mem _ hw), hK, hKA, hN⟩
  have hl := lv_entry ([.ref b, .int p0, .int p1, .ref o]) (n := 5) (Nat.le_of_ble_eq_true rfl)
  rw [lg_entry_eq]
  generalize (lg_sl ([.ref b, .int p0, .int p1, .ref o]) ++ List.replicate (5 - (lg_sl ([.ref b, .int p0, .int p1, .ref o])).length) Slot.unset).toArray = ls at hl ⊢
  have hl : lv_has ls 5 [(0, .ref b), (1, .int p0), (2, .int p1), (3, .ref o)] := hl
  have hS : va_S (wr_A σ o) s.heap s.heap [] := va_S.rf
  refine lv_aload_n hx hb dL_members_0 rfl (lv_at hl 3 rfl) ?_
  refine lv_iconst (v := 0) hx hb dL_members_1 (by decide) ?_
  refine lv_aload_n hx hb dL_members_2 rfl (lv_at hl 0 rfl) ?_
  refine lv_iload_n hx hb dL_members_3 rfl (lv_at hl 1 rfl) ?_
  refine lv_iload_n hx hb dL_members_4 rfl (lv_at hl 2 rfl) ?_
  refine lw_V (As := [.int p0, .int p1]) (rest := [.int 0, .ref o]) C hr (by decide) rfl rfl (show 3 ≤ mj_mL (tb ar) 55 from Nat.le_of_ble_eq_true rfl) (fun w hw => by simp only [List.mem_cons, List.not_mem_nil, or_false] at hw; rcases hw with rfl | rfl <;> rfl) lk_members hb1 hH hS wr_dm (wr_new hH.1) ⟨Nat.le_refl _, Nat.le_refl _⟩ hl.1 (Nat.le_of_ble_eq_true rfl) dL_members_5 ⟨Nat.le_of_eq (Nat.zero_add _), Nat.le_of_eq (Nat.zero_add _)⟩ (fun H1 locs1 hH1 hS1 hz hk => ?_)
  rw [Nat.zero_add, Nat.zero_add]
  refine lv_i2l (v := v.toInt64) hx hb dL_members_8 rfl ?_
  have hlt : o < s.heap.size := by
    rw [← hH.1]
    exact Nat.not_le.mp (fun q => ho (Or.inr q))
  have ho1 : H1[o]? = some (arrV cL 1 f0) := by rw [hk o hlt ho]; exact hof
  refine W.last hx hb ho1 (hLo 1 f0) (fun q => by cases q) (by show ¬ ((0 : Int32) < 0 ∨ (arrV _ _ _).slots.size ≤ _); rw [arrV_size]; decide) rfl rfl dL_members_9 (fun H2 e2 z2 o2 => ?_)
  have hS2 := hS1.put (k := Int32.toNatClampNeg 0) z2 o2 (show wr_A σ o o from Or.inr rfl)
  refine lv_goto (tgt := 17) hx hb dL_members_10 rfl ?_
  refine lv_iconst (v := 0) hx hb dL_members_17 (by decide) ?_
  refine vx_ret ?_
  exact W.iret (v := 0) hx hb hret (fun t ht hW => ⟨rfl, ⟨⟨_, by rw [ht, e2, arrV_store], rfl⟩, ⟨⟨_, by rw [ht, e2, arrV_store]⟩, fun a x hx => by rw [ht]; exact (hH1.2 a x hx).kept (o2 a (fun e => ho2 x (e ▸ hx)))⟩, by rw [ht, z2, ← hH1.1]; exact Nat.le_refl _⟩, hS2.F ht⟩) hS2.2.2 dL_members_18
theorem Lx_members_x_ix (hlt : l.stackTraces = false) (hr : mj_R (tb ar) 55 (mj_en (tb ar) 55 (.ref b :: [.int p0, .int p1]) σ) (.inr x_ix, σ1)) (hb1 : σ.2.2 b = some (.inr (9, fs))) (ho : ¬ mj_A σ o) : vx_Met l yL_members (wr_ws yL_members cL_members 5 [(0, 10, 13, 13)]) (wr_rm ar 55 (σ1.1 - σ.1 + 1) (σ1.2.1 - σ.2.1 + 6)) (wr_Px ar D cL σ [.ref b, .int p0, .int p1, .ref o] o) (wr_Q σ o 1 (wr_K2 D cL o σ1)) wr_No (σ1.1 - σ.1 + 1) (σ1.2.1 - σ.2.1 + 6) (wr_A σ o) := by
  refine vx_ofWH (cc := cL_members) (maxL := 5) (ret := some .int) (hh := [(0, 10, 13, 13)]) (by decide) rfl ?_
  intro p e s m args below meth c s₁ B hml hv
  obtain ⟨⟨rfl, hH, ⟨f0, hof⟩, hK, hKA, hN, -⟩, hXP, hNc⟩ := hv
  have hts := atoms_spec (ws := wr_ws yL_members cL_members 5 [(0, 10, 13, 13)]) B.pre
  have hown : s.vm.findClass RL = some m.cls := findClass_of_methodNamed B.named
  have hx := B.exec
  have hb := B.bytes
  have hret := B.returns
  have hlocks := B.notSynchronized
  have C : lw_C p s m ([.ref b, .int p0, .int p1, .ref o] : List Value).toArray c cL_members 5 ar D := ⟨hx, hb, hml, hown, fun w hw => hts w (List.mem_cons_of_mem _ hw), hK, hKA, hN⟩
  have hl := lv_entry ([.ref b, .int p0, .int p1, .ref o]) (n := 5) (Nat.le_of_ble_eq_true rfl)
  rw [lg_entry_eq]
  generalize (lg_sl ([.ref b, .int p0, .int p1, .ref o]) ++ List.replicate (5 - (lg_sl ([.ref b, .int p0, .int p1, .ref o])).length) Slot.unset).toArray = ls at hl ⊢
  have hl : lv_has ls 5 [(0, .ref b), (1, .int p0), (2, .int p1), (3, .ref o)] := hl
  have hS : va_S (wr_A σ o) s.heap s.heap [] := va_S.rf
  refine lv_aload_n hx hb dL_members_0 rfl (lv_at hl 3 rfl) ?_
  refine lv_iconst (v := 0) hx hb dL_members_1 (by decide) ?_
  refine lv_aload_n hx hb dL_members_2 rfl (lv_at hl 0 rfl) ?_
  refine lv_iload_n hx hb dL_members_3 rfl (lv_at hl 1 rfl) ?_
  refine lv_iload_n hx hb dL_members_4 rfl (lv_at hl 2 rfl) ?_
  refine lw_X (As := [.int p0, .int p1]) (rest := [.int 0, .ref o]) hlt C hr (by decide) rfl rfl (show 3 ≤ mj_mL (tb ar) 55 from Nat.le_of_ble_eq_true rfl) (fun w hw => by simp only [List.mem_cons, List.not_mem_nil, or_false] at hw; rcases hw with rfl | rfl <;> rfl) lk_members hb1 hH hXP hS wr_dm (wr_new hH.1) ⟨Nat.le_refl _, Nat.le_refl _⟩ hl.1 (Nat.le_of_ble_eq_true rfl) dL_members_5 ⟨Nat.le_of_eq (Nat.zero_add _), Nat.le_of_eq (Nat.zero_add _)⟩ (fun H1 locs1 ce q9 hcell hS1 hz hk hce hcv hcl => ?_)
  rw [Nat.zero_add, Nat.zero_add]
  refine vx_catch (own := RL) (name := x_ix) hown [] ⟨0, 10, 13, 13⟩ [] (by rw [vx_table (x := yL_cell) B (hts _ List.mem_cons_self)]; rfl) (fun z hz => by cases hz) (by decide) (by decide) (hts _ (List.mem_cons_of_mem _ (show Cond.classLink RL 13 x_ix ∈ tb_W by decide +kernel))) (va_tabs rfl rfl (hN (Cond.castable x_ix x_ix) (by decide +kernel))) hce hcv hcl ?_
  refine lv_astore (lv' := (4, .ref q9) :: [(0, .ref b), (1, .int p0), (2, .int p1), (3, .ref o)]) hx hb dL_members_13 hl (by decide) rfl (fun ls hl => ?_)
  refine lv_iconst (v := 1) hx hb dL_members_15 (by decide) ?_
  refine vx_ret ?_
  exact W.iret (v := 1) hx hb hret (fun t ht hW => ⟨rfl, ⟨⟨f0, by rw [ht, hk o (by rw [← hH.1]; exact Nat.not_le.mp (fun q => ho (Or.inr q))) ho]; exact hof⟩, fun a x hx => by rw [ht]; exact hcell a x hx⟩, hS1.F ht⟩) hS1.2.2 dL_members_16
end WR
