/-! THE SMALL MACHINE'S STEPS ARE THE MACHINE'S. -/
def mj_H (D : va_G) (cl : List vw_C) (σ : mj_S) (H : Heap) : Prop := σ.1 = H.size ∧ ∀ (a : Nat) (e : va_E), σ.2.2 a = some e → va_at D cl (a, e) H
def mj_L (nL : Nat) (ls : Array Slot) (L : List (Option Value)) : Prop := L.length = nL ∧ ls.size = nL ∧ lv_wf ls ∧ ∀ (i : Nat) (v : Value), L[i]? = some (some v) → ls[i]? = some (.val v) ∧ v.category = 1
def mj_lv (L : List (Option Value)) : List (Nat × Value) := (List.range L.length).filterMap (fun j => match L[j]? with
  | some (some v) => some (j, v)
  | _ => none)
theorem mj_lv_mem {L : List (Option Value)} {j : Nat} {v : Value} : (j, v) ∈ mj_lv L ↔ L[j]? = some (some v) := by
  unfold mj_lv
  rw [List.mem_filterMap]
  constructor
  · rintro ⟨i, -, hi⟩
    revert hi
    split
    · intro hi
      cases hi
      assumption
    · intro hi
      cases hi
  · intro h
    have hl : j < L.length := (List.getElem?_eq_some_iff.mp h).1
    refine ⟨j, List.mem_range.mpr hl, ?_⟩
    rw [h]
theorem mj_L.has {nL : Nat} {ls : Array Slot} {L : List (Option Value)} (h : mj_L nL ls L) : lv_has ls nL (mj_lv L) := by
  obtain ⟨h1, h2, h3, h4⟩ := h
  refine ⟨h2, h3, fun q hq => ?_⟩
  obtain ⟨j, v⟩ := q
  exact (h4 j v (mj_lv_mem.mp hq)).1
theorem mj_L.back {nL : Nat} {ls ls' : Array Slot} {L : List (Option Value)} {i : Nat} {v : Value} (h : mj_L nL ls L) (hi : i < L.length) (hc : v.category = 1) (h' : lv_has ls' nL ((i, v) :: (mj_lv L).filter (fun q => !(q.1 == i) && !(q.1 + 1 == i && q.2.category == 2)))) : mj_L nL ls' (L.set i (some v)) := by
  obtain ⟨h1, h2, h3, h4⟩ := h
  refine ⟨by rw [List.length_set]; exact h1, h'.1, h'.2.1, fun j w hj => ?_⟩
  by_cases hij : i = j
  · subst hij
    rw [List.getElem?_set_self hi] at hj
    cases hj
    exact ⟨h'.2.2 (i, v) List.mem_cons_self, hc⟩
  · rw [List.getElem?_set_ne hij] at hj
    have hw := (h4 j w hj).2
    refine ⟨h'.2.2 (j, w) (List.mem_cons_of_mem _ (List.mem_filter.mpr ⟨mj_lv_mem.mpr hj, ?_⟩)), hw⟩
    have h5 : ¬ j = i := fun e => hij e.symm
    simp [h5, hw]
/-- what the tables say of the arrays -/
def mj_KA (Θ : mj_T) (Rn : Nat → String) (s : State) : Prop := (ArrOfT s (mj_ar Θ 0) .int ∧ va_RA s (mj_ar Θ 0) .int) ∧ (ArrOfT s (mj_ar Θ 1) .boolean ∧ va_RA s (mj_ar Θ 1) .boolean) ∧ ∀ ci ∈ mj_ak Θ, (ArrOfT s (mj_ar Θ (2 + ci)) (.object (Rn ci)) ∧ va_RA s (mj_ar Θ (2 + ci)) (.object (Rn ci))) ∧ va_AO (Rn ci) s
/-- the small machine's tables, out of the words Ts -/
def mj_ok (Θ : mj_T) (cl : List vw_C) (Ts : List Cond) (Rn : Nat → String) : Prop :=
  (∀ (o ix ci j : Nat) (fin : Bool), mj_fl Θ o ix = some (ci, j, fin) → ∃ T : u_T, cl[ci]? = some (Rn ci, T, (mj_ty Θ ci).length) ∧ j < (mj_ty Θ ci).length ∧ Cond.fieldLink (Rn o) ix (T j).1 (T j).2.1 (T j).2.2.1 ∈ Ts ∧ (T j).2.2.2 = fin ∧ (fin = true → (T j).1 = Rn ci)) ∧
  (∀ (ci : Nat) (r : vw_C), cl[ci]? = some r → r.1 = Rn ci ∧ r.2.2 = (mj_ty Θ ci).length ∧ (∀ w ∈ u_ws r.1 r.2.1 r.2.2, w ∈ Ts) ∧ (∀ j, j < r.2.2 → parseFieldDescriptor (r.2.1 j).2.2.1 = (mj_ty Θ ci)[j]?) ∧ (∀ a, a < r.2.2 → ∀ b, b < r.2.2 → a ≠ b → (r.2.1 a).2.1 ≠ (r.2.1 b).2.1)) ∧
  (∀ (o ix ci : Nat), mj_nl Θ o ix = some ci → ∃ T : u_T, cl[ci]? = some (Rn ci, T, (mj_ty Θ ci).length) ∧ Cond.classLink (Rn o) ix (Rn ci) ∈ Ts ∧ Cond.instantiable (Rn ci) (mj_ty Θ ci).length ∈ Ts ∧ Cond.initialized (Rn ci) ∈ Ts) ∧
  (∀ (o ix ci : Nat), mj_al Θ o ix = some ci → Cond.classLink (Rn o) ix (Rn ci) ∈ Ts) ∧
  (∀ (o ix : Nat) (v : Int32), mj_kl Θ o ix = some v → Cond.constant (Rn o) ix v ∈ Ts) ∧
  (∀ (o ix : Nat), mj_ml Θ o ix = some 998 → Cond.methodLink (Rn o) ix objectInit ∈ Ts ∧ Cond.instanceMethod objectInit ∈ Ts ∧ Cond.code objectInit ⟨#[0xb1]⟩ 1 none ∈ Ts) ∧
  (∀ (o ix : Nat), mj_ml Θ o ix = some 999 → Cond.methodLink (Rn o) ix arraycopyName ∈ Ts ∧ Cond.native arraycopyName ∈ Ts ∧ Cond.static arraycopyName ∈ Ts ∧ Cond.initialized "java/lang/System" ∈ Ts) ∧
  Cond.arrayClass .int ∈ Ts ∧ Cond.arrayClass .boolean ∈ Ts ∧
  (∀ (o ix : Nat), mj_ml Θ o ix = some 997 → Cond.methodLink (Rn o) ix Lib.Math.max.name ∈ Ts ∧ Cond.static Lib.Math.max.name ∈ Ts ∧ Cond.initialized "java/lang/Math" ∈ Ts ∧ Cond.code Lib.Math.max.name Lib.Math.max.code 2 (some .int) ∈ Ts) ∧
  (∀ (o ix : Nat), mj_ml Θ o ix = some 996 → Cond.methodLink (Rn o) ix Lib.Math.min.name ∈ Ts ∧ Cond.static Lib.Math.min.name ∈ Ts ∧ Cond.initialized "java/lang/Math" ∈ Ts ∧ Cond.code Lib.Math.min.name Lib.Math.min.code 2 (some .int) ∈ Ts)
/-- what holds in method k's frame -/
def mj_Cx (p : Program) (s : State) (m : MethodId) (args : Array Value) (meth : Method) (c : Code) (Θ : mj_T) (D : va_G) (cl : List vw_C) (Ts : List Cond) (Rn : Nat → String) (k : Nat) (A : Nat → Prop) (H0 : Heap) : Prop :=
  p.tables.exec = Jvm.exec ∧ c.code = mj_cc Θ k ∧ c.maxLocals = mj_mL Θ k ∧ s.vm.findClass (Rn (mj_o Θ k)) = some m.cls ∧ (∀ w ∈ Ts, w.before args s = true) ∧ va_K D cl [] s ∧ mj_KA Θ Rn s ∧ (mj_kd Θ k = 2 → meth.name = "<init>") ∧ (∀ q, H0.size ≤ q → A q) ∧ mj_ok Θ cl Ts Rn
/-- from the frame f on the machine comes to Q -/
def mj_W (p : Program) (l : Launch) (e : Env) (R : Room) (s : State) (m : MethodId) (args : Array Value) (below : List Frame) (meth : Method) (c : Code) (Q : State → Prop) (D : va_G) (cl : List vw_C) (A : Nat → Prop) (H0 : Heap) (n0 s0 nL : Nat) (f : mj_F) : Prop :=
  ∀ (H : Heap) (locs : List Loc) (ls : Array Slot), mj_H D cl f.2.2.2 H → mj_L nL ls f.2.1 → va_S A H0 H locs → (∀ (a : Nat) (x : va_E), f.2.2.2.2.2 a = some x → A a) → n0 ≤ f.2.2.2.1 → s0 ≤ f.2.2.2.2.1 → W p l e R s m args below meth c H locs (f.2.2.2.1 - n0) (f.2.2.2.2.1 - s0) Q (F0 m f.1 ls f.2.2.1)
theorem mj_H.up {D : va_G} {cl : List vw_C} {σ : mj_S} {H H1 : Heap} {a : Nat} {x : va_E} (h : mj_H D cl σ H) (hx : va_at D cl (a, x) H1) (z : H1.size = H.size) (oq : ∀ q, q ≠ a → H1[q]? = H[q]?) : mj_H D cl (mj_up σ a x) H1 := by
  refine ⟨by rw [z]; exact h.1, fun b y hb => ?_⟩
  unfold mj_up at hb
  dsimp only at hb
  by_cases hab : b = a
  · subst hab
    rw [if_pos rfl] at hb
    cases hb
    exact hx
  · rw [if_neg hab] at hb
    exact (h.2 b y hb).kept (oq b hab)
theorem mj_H.add {D : va_G} {cl : List vw_C} {σ : mj_S} {H H1 : Heap} {n : Nat} {x : va_E} (h : mj_H D cl σ H) (hx : va_at D cl (σ.1, x) H1) (z : H1.size = H.size + 1) (oq : ∀ q, q < H.size → H1[q]? = H[q]?) : mj_H D cl (mj_add σ n x) H1 := by
  refine ⟨by rw [z, ← h.1]; rfl, fun b y hb => ?_⟩
  unfold mj_add at hb
  dsimp only at hb
  by_cases hab : b = σ.1
  · subst hab
    rw [if_pos rfl] at hb
    cases hb
    exact hx
  · rw [if_neg hab] at hb
    have h2 := h.2 b y hb
    exact h2.kept (oq b h2.lt)
theorem mj_dom_up {σ : mj_S} {A : Nat → Prop} {a : Nat} {x : va_E} (h : ∀ (b : Nat) (y : va_E), σ.2.2 b = some y → A b) (ha : A a) : ∀ (b : Nat) (y : va_E), (mj_up σ a x).2.2 b = some y → A b := by
  intro b y hb
  unfold mj_up at hb
  dsimp only at hb
  by_cases hab : b = a
  · subst hab; exact ha
  · rw [if_neg hab] at hb; exact h b y hb
theorem mj_dom_add {σ : mj_S} {A : Nat → Prop} {n : Nat} {x : va_E} (h : ∀ (b : Nat) (y : va_E), σ.2.2 b = some y → A b) (ha : A σ.1) : ∀ (b : Nat) (y : va_E), (mj_add σ n x).2.2 b = some y → A b := by
  intro b y hb
  unfold mj_add at hb
  dsimp only at hb
  by_cases hab : b = σ.1
  · subst hab; exact ha
  · rw [if_neg hab] at hb; exact h b y hb
