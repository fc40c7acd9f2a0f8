section MJX
variable {Θ : mj_T} {D : va_G} {cl : List vw_C} {Ts Ns : List Cond} {Ss : List (String × Nat × String)} {Rn : Nat → String} {yn : Nat → MethodName} {l : Launch} {k : Nat}
def mj_nms : List String := ["java/lang/RuntimeException", "java/lang/Exception"]
/-- what a throw needs of the state: its texts, two statics of Throwable -/
def mj_XP (Ss : List (String × Nat × String)) (A : Nat → Prop) (s : State) (H : Heap) : Prop := (∀ q ∈ Ss, ∃ sa : Nat, vk_R q.1 q.2.1 q.2.2 sa s) ∧ vx_Zq Bundle.tN "UNASSIGNED_STACK" Bundle.steD A s H ∧ vx_Zq Bundle.tN "SUPPRESSED_SENTINEL" Bundle.listD A s H
/-- the tables at the throws -/
def mj_okX (Θ : mj_T) (Ts Ns : List Cond) (Ss : List (String × Nat × String)) (Rn : Nat → String) : Prop := ∀ (k q : Nat) (E : String), mj_xl Θ k q = some E → ∃ (pc ik is ic : Nat) (text : String), q = pc + 3 ∧ decode (mj_cc Θ k) pc = .ok (.new ik, 3) ∧ decode (mj_cc Θ k) (pc + 3) = .ok (.dup, 1) ∧ decode (mj_cc Θ k) (pc + 4) = .ok (.ldc is, 2) ∧ decode (mj_cc Θ k) (pc + 6) = .ok (.invokespecial ic, 3) ∧ decode (mj_cc Θ k) (pc + 9) = .ok (.athrow, 1) ∧
  Cond.classLink (Rn (mj_o Θ k)) ik E ∈ Ts ∧ Cond.initialized E ∈ Ts ∧ (Rn (mj_o Θ k), is, text) ∈ Ss ∧ (∀ w ∈ vx_atS (Rn (mj_o Θ k)) ic E mj_nms, w ∈ Ts ∨ w ∈ Ns) ∧ (∀ w ∈ vx_atS (Rn (mj_o Θ k)) ic E mj_nms, vx_ot w = true) ∧ Bundle.fit E = true ∧ 6 ≤ mj_fr Θ k ∧ 90 ≤ mj_lo Θ k
/-- a virtual method is called by an ordinary link -/
def mj_okV (Θ : mj_T) (Ts : List Cond) (Rn : Nat → String) (yn : Nat → MethodName) : Prop := ∀ (o ix y : Nat), mj_ml Θ o ix = some y → y < 900 → mj_kd Θ y = 0 → Cond.methodLink (Rn o) ix (yn y) ∈ Ts
theorem mj_XP.warm {A : Nat → Prop} {s U : State} {H : Heap} (hW : s.WarmedH U.vm) (h : mj_XP Ss A s H) : mj_XP Ss A U H := by
  obtain ⟨h1, h2, h3⟩ := h
  refine ⟨fun q hq => ?_, h2.moved hW.alike, h3.moved hW.alike⟩
  obtain ⟨sa, h4⟩ := h1 q hq
  exact ⟨sa, h4.warm hW⟩
theorem mj_XP.same {A : Nat → Prop} {u U : State} {H : Heap} (hvm : U.vm = u.vm) (h : mj_XP Ss A u H) : mj_XP Ss A U H := by
  obtain ⟨h1, h2, h3⟩ := h
  have hal : u.vm.Alike U.vm := by rw [hvm]; exact Vm.Alike.refl _
  refine ⟨fun q hq => ?_, h2.moved hal, h3.moved hal⟩
  obtain ⟨sa, h4⟩ := h1 q hq
  exact ⟨sa, h4.same hvm⟩
theorem mj_XP.kept {A B : Nat → Prop} {s : State} {H H1 : Heap} (h : mj_XP Ss A s H) (hq : ∀ a : Nat, a < H.size → ¬ A a → H1[a]? = H[a]?) (hAB : ∀ q, B q → A q) : mj_XP Ss B s H1 :=
  ⟨h.1, (h.2.1.kept hq).narrow hAB, (h.2.2.kept hq).narrow hAB⟩
theorem mj_st_thr {f : mj_F} {E : String} (h : mj_st Θ k f = some (.inr (.inr (.inl E)))) : ∃ ix, decode (mj_cc Θ k) f.1 = .ok (.new ix, 3) ∧ mj_xl Θ k (f.1 + 3) = some E ∧ f.2.2.1 = [] := by
  obtain ⟨pc, L, st, σ⟩ := f
  unfold mj_st at h
  dsimp only at h ⊢
  cases hdg : decode (mj_cc Θ k) pc with
  | error x => rw [hdg] at h; cases h
  | ok q =>
    obtain ⟨i, len⟩ := q
    rw [hdg] at h
    dsimp only at h
    cases i with
    | new ix =>
      simp only [mj_i, mj_new, mj_nx] at h
      split at h
      · next hlen =>
        subst hlen
        split at h
        · cases h
        · split at h
          · next E' hx =>
            split at h
            · cases h; exact ⟨ix, rfl, hx, rfl⟩
            · cases h
          · cases h
      · cases h
    | _ =>
      exfalso
      simp only [mj_i, mj_j, mj_ldi, mj_lda, mj_sti, mj_sta, mj_b2, mj_get, mj_put, mj_iald, mj_iast, mj_zast, mj_aald, mj_aast, mj_alen, mj_newa, mj_anew, mj_cpy, mj_mm, mj_call, mj_nx] at h
      (repeat' split at h) <;> cases h
/-- where a method has thrown E: the store's cells are as they were -/
def mj_XC (D : va_G) (cl : List vw_C) (A : Nat → Prop) (σ' : mj_S) (E : String) : String → State → State → Prop := fun E' st t => E' = E ∧ (∀ (a : Nat) (x : va_E), σ'.2.2 a = some x → va_at D cl (a, x) t.heap) ∧ σ'.1 ≤ t.heap.size ∧ va_F A st t
def mj_QF : Array Value → State → Outcome → State → Prop := fun _ _ _ _ => False
def mj_PcX (Θ : mj_T) (D : va_G) (cl : List vw_C) (Ns : List Cond) (Ss : List (String × Nat × String)) (Rn : Nat → String) (σ : mj_S) (as : List Value) : Array Value → State → Prop := fun v U => mj_Pc Θ D cl Ns Rn σ as v U ∧ mj_XP Ss (mj_A σ) U U.heap
def mj_MetX (l : Launch) (Θ : mj_T) (D : va_G) (cl : List vw_C) (Ts Ns : List Cond) (Ss : List (String × Nat × String)) (Rn : Nat → String) (yn : Nat → MethodName) (k : Nat) (as : List Value) (σ : mj_S) (E : String) (σ' : mj_S) : Prop :=
  vx_Met l (yn k) (mj_ws Θ Ts yn k) (mj_rm Θ k (σ'.1 - σ.1 + 1) (σ'.2.1 - σ.2.1 + 6)) (mj_PcX Θ D cl Ns Ss Rn σ as) mj_QF (mj_XC D cl (mj_A σ) σ' E) (σ'.1 - σ.1 + 1) (σ'.2.1 - σ.2.1 + 6) (mj_A σ)
def mj_SndX (l : Launch) (Θ : mj_T) (D : va_G) (cl : List vw_C) (Ts Ns : List Cond) (Ss : List (String × Nat × String)) (Rn : Nat → String) (k : Nat) (f : mj_F) (E : String) (σ' : mj_S) : Prop :=
  ∀ (p : Program) (e : Env) (R : Room) (s : State) (m : MethodId) (args : Array Value) (below : List Frame) (meth : Method) (c : Code) (A : Nat → Prop) (n0 s0 : Nat), mj_Cx p s m args meth c Θ D cl Ts Rn k A s.heap → mj_N Ns s → mj_XP Ss A s s.heap → (∀ x ∈ c.exceptionTable.toList, False) → R.frames = mj_fr Θ k → R.locals = mj_lo Θ k → R.cells = σ'.1 - n0 + 1 → R.slots = σ'.2.1 - s0 + 6 → meth.locks = false →
    mj_W p l e R s m args below meth c (vx_MQ below mj_QF (mj_XC D cl A σ' E) args s (σ'.1 - n0 + 1) (σ'.2.1 - s0 + 6) A) D cl A s.heap n0 s0 (mj_mL Θ k) f
theorem mj_metX_of {y : Nat} {as : List Value} {σ σ1 : mj_S} {E : String} (hok : mj_ok Θ cl Ts Rn) (hY : mj_okY Θ Ts Rn yn y) (hc : ∀ w ∈ as, w.category = 1) (hl : as.length ≤ mj_mL Θ y) (hS : mj_SndX l Θ D cl Ts Ns Ss Rn y (mj_en Θ y as σ) E σ1) : mj_MetX l Θ D cl Ts Ns Ss Rn yn y as σ E σ1 := by
  obtain ⟨y1, y2, y3, y4, y5, y6, y7, y8⟩ := hY
  refine vx_ofW (cc := mj_cc Θ y) (maxL := mj_mL Θ y) (ret := mj_rt Θ y) y5 rfl ?_
  intro p e s m args below meth c s₁ B hml hxt hv
  obtain ⟨⟨rfl, hH, hK, hKA, hNs⟩, hXP⟩ := hv
  have hts := atoms_spec (ws := mj_ws Θ Ts yn y) B.pre
  have hown : s.vm.findClass (Rn (mj_o Θ y)) = some m.cls := by rw [← y3]; exact findClass_of_methodNamed B.named
  have hin : mj_kd Θ y = 2 → meth.name = "<init>" := fun h => by rw [(name_of_methodNamed B.named B.method).1]; exact (y8 h).1
  have hC : mj_Cx p s m as.toArray meth c Θ D cl Ts Rn y (mj_A σ) s.heap := ⟨B.exec, B.bytes, hml, hown, fun w hw => hts w (List.mem_cons_of_mem _ hw), hK, hKA, hin, fun q hq => Or.inr (by rw [hH.1]; exact hq), hok⟩
  have K := hS p e (headSpec (mj_ws Θ Ts yn y) (mj_rm Θ y (σ1.1 - σ.1 + 1) (σ1.2.1 - σ.2.1 + 6))).room s m as.toArray below meth c (mj_A σ) σ.1 σ.2.1 hC hNs hXP hxt rfl rfl rfl rfl B.notSynchronized s.heap [] _ hH (mj_en_L hc hl) va_S.rf (fun a x hx => Or.inl ⟨x, hx⟩) (Nat.le_refl _) (Nat.le_refl _)
  rw [entry_eq m as hc]
  have z1 : (mj_en Θ y as σ).2.2.2.1 - σ.1 = 0 := Nat.sub_self _
  have z2 : (mj_en Θ y as σ).2.2.2.2.1 - σ.2.1 = 0 := Nat.sub_self _
  rw [z1, z2] at K
  exact K
/-- behind a call that threw -/
theorem mj_retX {p : Program} {e : Env} {R : Room} {s : State} {m : MethodId} {args : Array Value} {below : List Frame} {meth : Method} {c : Code} {H : Heap} {locs : List Loc} {cells slots : Nat} {pc : Nat} {ls : Array Slot} {rest st0 : List Value} {A0 A1 : Nat → Prop} {mc ms MC MS : Nat} {free : Addr → Prop} {E : String} {σ' : mj_S} {a : Array Value}
    (hr : vx_Run p l e R s m args below meth c H locs cells slots mc ms (F0 m pc ls st0) rest (mj_QF a) (mj_XC D cl A1 σ' E) free) (hS : va_S A0 s.heap H locs) (hA : ∀ q, q < H.size → A1 q → A0 q) (hf : ∀ q, free q → A0 q) (hxt : ∀ x ∈ c.exceptionTable.toList, False) (hlk : meth.locks = false) (hmc : cells + mc ≤ MC) (hms : slots + ms ≤ MS) :
    W p l e R s m args below meth c H locs cells slots (vx_MQ below mj_QF (mj_XC D cl A0 σ' E) args s MC MS A0) (F0 m pc ls st0) := by
  intro T hT X
  rcases hr T hT X with ⟨v, st₀, t, T', L, h0, X', hL, e1, e2, hq, st⟩ | ⟨q, st₀, t, T', L, E', ce, h0, X', hL, e1, e2, ⟨rfl, hcell, hsz, hF⟩, hce, hcv, hcl, st⟩
  · exact hq.elim
  · obtain ⟨k1, k2, k3⟩ := vx_keep h0 e1 hS hA hf hL hF
    have K : vx_W p l e R s m args below meth c T'.heap (locs ++ L) (cells + mc) (slots + ms) (vx_MQ below mj_QF (mj_XC D cl A0 σ' E') args s MC MS A0) (F0 m pc ls rest) q :=
      vx_out (fun x hx => (hxt x hx).elim) hlk (by rw [e1]; exact hce) hcv hcl (fun t2 ht2 _ => ⟨rfl, fun b x hb => by rw [ht2, e1]; exact hcell b x hb, by rw [ht2, e1]; exact hsz, k3.F ht2⟩) k3.2.2 hmc hms
    obtain ⟨t2, a1, b1⟩ := K T' rfl X'
    exact ⟨t2, st.trans a1, b1⟩
end MJX
