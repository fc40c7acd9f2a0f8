section MJQ
variable {Θ : mj_T} {D : va_G} {cl : List vw_C} {Ts Ns : List Cond} {Rn : Nat → String} {yn : Nat → MethodName}
/-- the cells that a method may change: the store's, and new ones -/
def mj_A (σ : mj_S) : Nat → Prop := fun q => (∃ x : va_E, σ.2.2 q = some x) ∨ σ.1 ≤ q
def mj_rm (Θ : mj_T) (k mc ms : Nat) : Room := { frames := mj_fr Θ k, cells := mc, slots := ms, locals := mj_lo Θ k }
/-- words that are moved one by one: links between nest mates, and what a throw needs -/
def mj_N (Ns : List Cond) (U : State) : Prop := ∀ w ∈ Ns, va_Nw w U
def mj_okN (Ns : List Cond) : Prop := ∀ w ∈ Ns, (∃ (a : String) (i : Nat) (x : MethodName) (h : String), w = Cond.methodLinkNest a i x h) ∨ (∃ x : MethodName, w = Cond.declares x) ∨ (∃ a b : String, w = Cond.castable a b)
theorem mj_N.warm {s U : State} (hN : mj_okN Ns) (hW : s.WarmedH U.vm) (h : mj_N Ns s) : mj_N Ns U := by
  intro w hw
  have h1 := h w hw
  rcases hN w hw with ⟨a, i, x, g, rfl⟩ | ⟨x, rfl⟩ | ⟨a, b, rfl⟩
  · exact va_Nw.warmM hW h1
  · exact va_Nw.warmD hW h1
  · exact va_Nw.warmC hW h1
theorem mj_N.same {u U : State} (hN : mj_okN Ns) (hvm : u.vm = U.vm) (h : mj_N Ns u) : mj_N Ns U := by
  intro w hw
  have h1 := h w hw
  rcases hN w hw with ⟨a, i, x, g, rfl⟩ | ⟨x, rfl⟩ | ⟨a, b, rfl⟩
  · exact va_Nw.same rfl hvm h1
  · exact va_Nw.same rfl hvm h1
  · exact va_Nw.same rfl hvm h1
def mj_Pc (Θ : mj_T) (D : va_G) (cl : List vw_C) (Ns : List Cond) (Rn : Nat → String) (σ : mj_S) (as : List Value) : Array Value → State → Prop := fun v U => v = as.toArray ∧ mj_H D cl σ U.heap ∧ va_K D cl [] U ∧ mj_KA Θ Rn U ∧ mj_N Ns U
def mj_Qc (D : va_G) (cl : List vw_C) (A : Nat → Prop) (σ' : mj_S) (v : Option Value) : Array Value → State → Outcome → State → Prop := fun _ st o t => o = .returned v ∧ mj_H D cl σ' t.heap ∧ va_F A st t
def mj_ws (Θ : mj_T) (Ts : List Cond) (yn : Nat → MethodName) (k : Nat) : List Cond := Cond.code (yn k) (mj_cc Θ k) (mj_mL Θ k) (mj_rt Θ k) :: Ts
/-- method k on the store σ: it returns v, and the store is σ' -/
def mj_Met (l : Launch) (Θ : mj_T) (D : va_G) (cl : List vw_C) (Ts Ns : List Cond) (Rn : Nat → String) (yn : Nat → MethodName) (k : Nat) (as : List Value) (σ : mj_S) (v : Option Value) (σ' : mj_S) : Prop :=
  Met l (yn k) (mj_ws Θ Ts yn k) (mj_rm Θ k (σ'.1 - σ.1) (σ'.2.1 - σ.2.1)) (mj_Pc Θ D cl Ns Rn σ as) (mj_Qc D cl (mj_A σ) σ' v) (σ'.1 - σ.1) (σ'.2.1 - σ.2.1) (mj_A σ)
/-- what the tables say of method y -/
def mj_okY (Θ : mj_T) (Ts : List Cond) (Rn : Nat → String) (yn : Nat → MethodName) (y : Nat) : Prop :=
  Cond.code (yn y) (mj_cc Θ y) (mj_mL Θ y) (mj_rt Θ y) ∈ Ts ∧ Cond.initialized (yn y).cls ∈ Ts ∧ (yn y).cls = Rn (mj_o Θ y) ∧ ((yn y).cls ≠ "java/lang/invoke/MethodHandle" ∧ (yn y).cls ≠ "java/lang/invoke/VarHandle") ∧ plainName (yn y).cls = true ∧
  (mj_kd Θ y = 0 → Cond.instanceMethod (yn y) ∈ Ts ∧ Cond.selects (Rn (mj_o Θ y)) (yn y) (yn y) ∈ Ts ∧ (parseMethodDescriptor (yn y).desc).map (fun d => d.parameters.length) = some (mj_na Θ y - 1)) ∧
  (mj_kd Θ y = 1 → Cond.static (yn y) ∈ Ts ∧ (parseMethodDescriptor (yn y).desc).map (fun d => d.parameters.length) = some (mj_na Θ y)) ∧
  (mj_kd Θ y = 2 → (yn y).name = "<init>" ∧ Cond.instanceMethod (yn y) ∈ Ts ∧ mj_rt Θ y = none ∧ (parseMethodDescriptor (yn y).desc).map (fun d => d.parameters.length) = some (mj_na Θ y - 1))
def mj_okM (Θ : mj_T) (Ts Ns : List Cond) (Rn : Nat → String) (yn : Nat → MethodName) : Prop :=
  (∀ w ∈ Ts, goodWord w = true) ∧ mj_okN Ns ∧ ∀ (o ix y : Nat), mj_ml Θ o ix = some y → y < 900 → (Cond.methodLink (Rn o) ix (yn y) ∈ Ts ∨ ∃ host : String, Cond.methodLinkNest (Rn o) ix (yn y) host ∈ Ns) ∧ mj_okY Θ Ts Rn yn y
theorem mj_KA.moved {u U : State} (hvm : u.vm.Alike U.vm) (h : mj_KA Θ Rn u) : mj_KA Θ Rn U :=
  ⟨⟨arrOfT_moved hvm h.1.1, h.1.2.moved hvm⟩, ⟨arrOfT_moved hvm h.2.1.1, h.2.1.2.moved hvm⟩, fun ci hc => ⟨⟨arrOfT_moved hvm (h.2.2 ci hc).1.1, (h.2.2 ci hc).1.2.moved hvm⟩, (h.2.2 ci hc).2.moved hvm⟩⟩
theorem mj_blind {σ : mj_S} {as : List Value} (hN : mj_okN Ns) : FrameBlind (mj_Pc Θ D cl Ns Rn σ as) := by
  intro a U g mk q
  obtain ⟨q1, q2, q3, q4, q5⟩ := q
  exact ⟨q1, q2, va_K.moved (u := U) (U := U.calling g mk a) (Vm.Alike.refl U.vm) q3, mj_KA.moved (u := U) (U := U.calling g mk a) (Vm.Alike.refl U.vm) q4, mj_N.same (u := U) (U := U.calling g mk a) hN rfl q5⟩
theorem mj_en_L {as : List Value} {nL : Nat} (hc : ∀ v ∈ as, v.category = 1) (hl : as.length ≤ nL) : mj_L nL ((as.map Slot.val ++ List.replicate (nL - as.length) Slot.unset).toArray) (as.map some ++ List.replicate (nL - as.length) none) := by
  have key : ∀ (i : Nat) (x : Slot), ((as.map Slot.val ++ List.replicate (nL - as.length) Slot.unset).toArray)[i]? = some x → (∃ v ∈ as, x = .val v) ∨ x = .unset := by
    intro i x h
    rw [List.getElem?_toArray] at h
    have hm := List.mem_of_getElem? h
    rcases List.mem_append.mp hm with h1 | h1
    · obtain ⟨v, hv, rfl⟩ := List.mem_map.mp h1
      exact Or.inl ⟨v, hv, rfl⟩
    · exact Or.inr (List.eq_of_mem_replicate h1)
  refine ⟨by simp; omega, by simp; omega, ⟨fun i v hi hv => ?_, fun i hi => ?_⟩, fun i v hi => ?_⟩
  · rcases key i _ hi with ⟨w, hw, e⟩ | e
    · cases e
      have := hc v hw
      omega
    · cases e
  · rcases key i _ hi with ⟨w, hw, e⟩ | e
    · cases e
    · cases e
  · have hm : some v ∈ as.map some ++ List.replicate (nL - as.length) none := List.mem_of_getElem? hi
    have hv : v ∈ as := by
      rcases List.mem_append.mp hm with h1 | h1
      · simpa using h1
      · have := List.eq_of_mem_replicate h1
        cases this
    refine ⟨?_, hc v hv⟩
    rw [List.getElem?_toArray]
    by_cases hlt : i < as.length
    · rw [List.getElem?_append_left (by simpa using hlt)] at hi ⊢
      rw [List.getElem?_map] at hi ⊢
      cases ha : as[i]? with
      | none => rw [ha] at hi; cases hi
      | some w => rw [ha] at hi; cases hi; rfl
    · rw [List.getElem?_append_right (by simpa using Nat.not_lt.mp hlt)] at hi
      have := List.eq_of_mem_replicate (List.mem_of_getElem? hi)
      cases this
section MJC
variable {p : Program} {l : Launch} {e : Env} {R : Room} {s : State} {m : MethodId} {args : Array Value} {below : List Frame} {meth : Method} {c : Code} {H : Heap} {locs : List Loc} {cells slots : Nat} {Q : State → Prop} {pc : Nat} {ls : Array Slot} {rest st0 : List Value} {A0 A1 : Nat → Prop} {H0 : Heap} {mc ms : Nat} {free : Addr → Prop}
/-- behind a call that returned -/
theorem mj_ret {v0 : Option Value} {σ1 : mj_S} {a : Array Value} (hr : va_Run p l e R s m args below meth c H locs cells slots mc ms (F0 m pc ls st0) rest (mj_Qc D cl A1 σ1 v0 a) free) (hS : va_S A0 H0 H locs) (hA : ∀ q, q < H.size → A1 q → A0 q) (hf : ∀ q, free q → A0 q)
    (kk : ∀ (H1 : Heap) (locs1 : List Loc), mj_H D cl σ1 H1 → va_S A0 H0 H1 locs1 → W p l e R s m args below meth c H1 locs1 (cells + mc) (slots + ms) Q (F0 m (pc + 3) ls (v0.toList ++ rest))) : W p l e R s m args below meth c H locs cells slots Q (F0 m pc ls st0) := by
  intro T hT X
  obtain ⟨v, st₀, t, T', L, h0, X', hL, e1, e2, ⟨hv, hH1, hz, hk⟩, st⟩ := hr T hT X
  cases hv
  rw [h0] at hz hk
  obtain ⟨t2, a1, b1⟩ := kk T'.heap (locs ++ L) (by rw [e1]; exact hH1)
    ⟨Nat.le_trans hS.1 (by rw [e1]; exact hz), fun q h1 h2 => by rw [e1, hk q (Nat.lt_of_lt_of_le h1 hS.1) (fun z => h2 (hA q (Nat.lt_of_lt_of_le h1 hS.1) z))]; exact hS.2.1 q h1 h2, fun q hq => by
      rcases List.mem_append.mp hq with h | h
      · exact hS.2.2 q h
      · exact hf _ (hL q h)⟩ T' rfl X'
  exact ⟨t2, st t2 a1, b1⟩
end MJC
end MJQ
