section LS
variable {s : State} {args : Array Value} {A : Array Value}
theorem vk_of {own tx : String} {k : Nat} (h : (Cond.stringRef own k tx).before A s = true) : ∃ a, vk_R own k tx a s := by
  have h0 : (Cond.stringRef own k tx).before #[] s = true := h
  have h1 := h
  simp only [Cond.before, Cond.holds, Cond.value] at h1
  have h2 : ∃ q, s.resolvedAt? own k = some (.string q) := by
    cases hr : s.resolvedAt? own k with
    | none => simp [hr] at h1
    | some z =>
      cases z with
      | string q => exact ⟨q, rfl⟩
      | _ => simp [hr] at h1
  obtain ⟨q, hq⟩ := h2
  refine ⟨q, h0, ?_⟩
  cases hf : s.vm.findClass own with
  | none => simp [State.resolvedAt?, hf] at hq
  | some c0 =>
    cases hc : s.vm.classes[c0]? with
    | none => simp [State.resolvedAt?, hf, hc] at hq
    | some k0 =>
      have h3 : k0.resolved[k]?.join = some (.string q) := by simpa [State.resolvedAt?, hf, hc] using hq
      simp [Term.eval, State.resolvedAt?, hf, hc, h3]
theorem arr_of {ty : FieldType} (h : (Cond.arrayClass ty).before A s = true) : ∃ cA : ClassId, ArrOfT s cA ty ∧ s.vm.findClass ("[" ++ ty.toString) = some cA := by
  obtain ⟨cA, k, comp, h1, h2, h3⟩ := Cond.arrayClass_spec h
  exact ⟨cA, fun n z => ⟨fun k h => (by cases h), k, h2, comp, h3⟩, h1⟩
theorem aro_of {C : String} (h : (Cond.arrayOver (.object C)).before A s = true) : ∃ cA : ClassId, (ArrOfT s cA (.object C) ∧ va_RA s cA (.object C)) ∧ va_AO C s := by
  obtain ⟨comp, cA, k, h1, -, h3, h4, h5⟩ := Cond.arrayOver_spec h
  exact ⟨cA, ⟨fun n z => ⟨fun k h => (by cases h), k, h3, comp, h4⟩, k, comp, h3, h4, h1, h5⟩, h⟩
/-- the classes -/
theorem lw_K (hts : ∀ w ∈ lw_tbl, w.before args s = true) : ∃ D : va_G, va_K D tb_cl [] s := by
  have htw : ∀ w ∈ tb_W, w.before args s = true := fun w hw => hts w (List.mem_filter.mp hw).1
  have hok := tb_ok (fun _ => 0)
  have key : ∀ (k : Nat) (q : vw_C), tb_cl[k]? = some q → ∃ (z : ClassId × (Nat → Nat)), u_Kn s q.1 q.2.1 q.2.2 z.1 z.2 := by
    intro k q hq
    obtain ⟨-, -, hin, -, -⟩ := hok.2.1 k q hq
    have hi : Cond.instantiable q.1 q.2.2 ∈ lw_tbl := by
      have hk : k < 11 := (List.getElem?_eq_some_iff.mp hq).1
      have h3 : k = 0 ∨ k = 1 ∨ k = 2 ∨ k = 3 ∨ k = 4 ∨ k = 5 ∨ k = 6 ∨ k = 7 ∨ k = 8 ∨ k = 9 ∨ k = 10 := by omega
      rcases h3 with rfl | rfl | rfl | rfl | rfl | rfl | rfl | rfl | rfl | rfl | rfl <;> (cases hq; decide +kernel)
    obtain ⟨c, i, h⟩ := u_known htw hin (hts _ hi)
    exact ⟨(c, i), h⟩
  have key2 : ∀ k : Nat, ∃ z : ClassId × (Nat → Nat), ∀ q : vw_C, tb_cl[k]? = some q → u_Kn s q.1 q.2.1 q.2.2 z.1 z.2 := by
    intro k
    cases hq : tb_cl[k]? with
    | none => exact ⟨(0, fun _ => 0), fun q h => by cases h⟩
    | some q =>
      obtain ⟨z, hz⟩ := key k q hq
      exact ⟨z, fun q' h => by cases h; exact hz⟩
  exact ⟨(fun k => (Classical.choose (key2 k)).1, fun k => (Classical.choose (key2 k)).2), fun k q hq => Classical.choose_spec (key2 k) q hq, fun k q h => by simp at h⟩
theorem lw_KA (hts : ∀ w ∈ lw_tbl, w.before args s = true) : ∃ ar : Nat → ClassId, mj_KA (tb ar) tb_R s := by
  obtain ⟨c0, a0, b0⟩ := arr_of (hts (.arrayClass .int) (by decide +kernel))
  obtain ⟨c1, a1, b1⟩ := arr_of (hts (.arrayClass .boolean) (by decide +kernel))
  obtain ⟨c5, d5⟩ := aro_of (hts (.arrayOver (.object "CheapVotes$Main")) (by decide +kernel))
  obtain ⟨c6, d6⟩ := aro_of (hts (.arrayOver (.object "CheapVotes$Message")) (by decide +kernel))
  obtain ⟨c7, d7⟩ := aro_of (hts (.arrayOver (.object "CheapVotes$Node")) (by decide +kernel))
  obtain ⟨c9, d9⟩ := aro_of (hts (.arrayOver (.object "CheapVotes$Row")) (by decide +kernel))
  refine ⟨fun k => if k = 0 then c0 else if k = 1 then c1 else if k = 5 then c5 else if k = 6 then c6 else if k = 7 then c7 else c9, ⟨a0, b0⟩, ⟨a1, b1⟩, fun ci hc => ?_⟩
  have hc' : ci ∈ ([3, 4, 5, 7] : List Nat) := hc
  simp only [List.mem_cons, List.not_mem_nil, or_false] at hc'
  rcases hc' with rfl | rfl | rfl | rfl
  · exact d5
  · exact d6
  · exact d7
  · exact d9
theorem lw_N0 (hts : ∀ w ∈ lw_tbl, w.before args s = true) : mj_N tb_N s := by
  intro w hw
  have h1 : ∀ w ∈ tb_N, w ∈ lw_tbl ∧ w.onTables = true := by decide +kernel
  obtain ⟨h2, h3⟩ := h1 w hw
  exact va_tabs h3 rfl (hts w h2)
theorem lw_XP0 {b : Nat} (hts : ∀ w ∈ lw_tbl, w.before #[Value.ref b] s = true) (hgv : (Jvm.Cond.and given_1 narrow_1).before #[Value.ref b] s = true) : mj_XP tb_S (fun q => s.heap.size ≤ q) s s.heap := by
  have hs := flat_of_before _ hgv
  refine ⟨fun q hq => ?_, vx_Zqof (hts _ (by decide +kernel)) (hts _ (by decide +kernel)) (hs _ (by decide +kernel)) (fun a ha => Nat.not_le.mpr ha), vx_Zqof (hts _ (by decide +kernel)) (hts _ (by decide +kernel)) (hs _ (by decide +kernel)) (fun a ha => Nat.not_le.mpr ha)⟩
  unfold tb_S at hq
  simp only [List.mem_cons, List.not_mem_nil, or_false] at hq
  rcases hq with rfl | rfl | rfl | rfl | rfl | rfl | rfl | rfl | rfl | rfl | rfl | rfl | rfl <;> exact vk_of (hts _ (by decide +kernel))
theorem lw_Nc0 {b : Nat} (hgv : (Jvm.Cond.and given_1 narrow_1).before #[Value.ref b] s = true) : wr_Nc s := by
  have hs := flat_of_before _ hgv
  exact ⟨va_Nc.of (hs (.not (.castable x_ar x_ix)) (by decide +kernel)), va_Nc.of (hs (.not (.castable x_st x_ix)) (by decide +kernel)), va_Nc.of (hs (.not (.castable x_st x_ar)) (by decide +kernel))⟩
end LS
