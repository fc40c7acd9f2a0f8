section MJS
variable {p : Program} {l : Launch} {e : Env} {R : Room} {s : State} {m : MethodId} {args : Array Value} {below : List Frame} {meth : Method} {c : Code} {Q : State → Prop} {Θ : mj_T} {D : va_G} {cl : List vw_C} {Ts : List Cond} {Rn : Nat → String} {k : Nat} {A : Nat → Prop} {H0 : Heap} {n0 s0 : Nat} {pc len : Nat} {L : List (Option Value)} {st : List Value} {σ : mj_S} {f' : mj_F}
theorem ms_nx {g : mj_F} (h : mj_nx g = some (.inl f')) : f' = g := by cases h; rfl
theorem ms_if {c : Prop} {hc : Decidable c} {x : Option mj_O} (h : (if c then x else none) = some (.inl f')) : c ∧ x = some (.inl f') := by
  by_cases q : c
  · rw [if_pos q] at h; exact ⟨q, h⟩
  · rw [if_neg q] at h; cases h
theorem ms_j {off : Int} (h : mj_j pc off L st σ = some (.inl f')) : ∃ tgt : Nat, (pc : Int) + off = (tgt : Int) ∧ f' = (tgt, L, st, σ) := by
  obtain ⟨h0, h1⟩ := ms_if h
  exact ⟨((pc : Int) + off).toNat, by omega, ms_nx h1⟩
theorem ms_aconst_null (C : mj_Cx p s m args meth c Θ D cl Ts Rn k A H0) (hdg : decode (mj_cc Θ k) pc = .ok (.aconst_null, len)) (h : mj_i Θ k (.aconst_null) len pc L st σ = some (.inl f')) (kk : mj_W p l e R s m args below meth c Q D cl A H0 n0 s0 (mj_mL Θ k) f') : mj_W p l e R s m args below meth c Q D cl A H0 n0 s0 (mj_mL Θ k) (pc, L, st, σ) := by
  obtain ⟨hx, hb, hml, hown, hts, hK, hKA, hin, hA, hok⟩ := C
  have h1 := ms_if h
  clear h
  obtain ⟨rfl, h⟩ := h1
  obtain rfl := ms_nx h
  intro H locs ls hH hl hS hdm hn hs
  exact lv_null hx hb hdg (kk H locs ls hH hl hS hdm hn hs)
theorem ms_iconst {n : Int} (C : mj_Cx p s m args meth c Θ D cl Ts Rn k A H0) (hdg : decode (mj_cc Θ k) pc = .ok (.iconst n, len)) (h : mj_i Θ k (.iconst n) len pc L st σ = some (.inl f')) (kk : mj_W p l e R s m args below meth c Q D cl A H0 n0 s0 (mj_mL Θ k) f') : mj_W p l e R s m args below meth c Q D cl A H0 n0 s0 (mj_mL Θ k) (pc, L, st, σ) := by
  obtain ⟨hx, hb, hml, hown, hts, hK, hKA, hin, hA, hok⟩ := C
  have h1 := ms_if h
  clear h
  obtain ⟨rfl, h⟩ := h1
  obtain rfl := ms_nx h
  intro H locs ls hH hl hS hdm hn hs
  exact lv_iconst hx hb hdg rfl (kk H locs ls hH hl hS hdm hn hs)
theorem ms_bipush {n : Int} (C : mj_Cx p s m args meth c Θ D cl Ts Rn k A H0) (hdg : decode (mj_cc Θ k) pc = .ok (.bipush n, len)) (h : mj_i Θ k (.bipush n) len pc L st σ = some (.inl f')) (kk : mj_W p l e R s m args below meth c Q D cl A H0 n0 s0 (mj_mL Θ k) f') : mj_W p l e R s m args below meth c Q D cl A H0 n0 s0 (mj_mL Θ k) (pc, L, st, σ) := by
  obtain ⟨hx, hb, hml, hown, hts, hK, hKA, hin, hA, hok⟩ := C
  have h1 := ms_if h
  clear h
  obtain ⟨rfl, h⟩ := h1
  obtain rfl := ms_nx h
  intro H locs ls hH hl hS hdm hn hs
  exact lv_bipush hx hb hdg rfl (kk H locs ls hH hl hS hdm hn hs)
theorem ms_sipush {n : Int} (C : mj_Cx p s m args meth c Θ D cl Ts Rn k A H0) (hdg : decode (mj_cc Θ k) pc = .ok (.sipush n, len)) (h : mj_i Θ k (.sipush n) len pc L st σ = some (.inl f')) (kk : mj_W p l e R s m args below meth c Q D cl A H0 n0 s0 (mj_mL Θ k) f') : mj_W p l e R s m args below meth c Q D cl A H0 n0 s0 (mj_mL Θ k) (pc, L, st, σ) := by
  obtain ⟨hx, hb, hml, hown, hts, hK, hKA, hin, hA, hok⟩ := C
  have h1 := ms_if h
  clear h
  obtain ⟨rfl, h⟩ := h1
  obtain rfl := ms_nx h
  intro H locs ls hH hl hS hdm hn hs
  exact lv_sipush hx hb hdg rfl (kk H locs ls hH hl hS hdm hn hs)
theorem ms_ldc {ix : Nat} (C : mj_Cx p s m args meth c Θ D cl Ts Rn k A H0) (hdg : decode (mj_cc Θ k) pc = .ok (.ldc ix, len)) (h : mj_i Θ k (.ldc ix) len pc L st σ = some (.inl f')) (kk : mj_W p l e R s m args below meth c Q D cl A H0 n0 s0 (mj_mL Θ k) f') : mj_W p l e R s m args below meth c Q D cl A H0 n0 s0 (mj_mL Θ k) (pc, L, st, σ) := by
  obtain ⟨hx, hb, hml, hown, hts, hK, hKA, hin, hA, hok⟩ := C
  have h1 := ms_if h
  clear h
  obtain ⟨rfl, h⟩ := h1
  cases hc : mj_kl Θ (mj_o Θ k) ix with
  | none => rw [hc] at h; cases h
  | some v =>
    rw [hc] at h
    obtain rfl := ms_nx h
    intro H locs ls hH hl hS hdm hn hs
    exact lv_ldc hx hb hown (hts _ (hok.2.2.2.2.1 _ _ _ hc)) hdg (kk H locs ls hH hl hS hdm hn hs)
theorem ms_ldc_w {ix : Nat} (C : mj_Cx p s m args meth c Θ D cl Ts Rn k A H0) (hdg : decode (mj_cc Θ k) pc = .ok (.ldc_w ix, len)) (h : mj_i Θ k (.ldc_w ix) len pc L st σ = some (.inl f')) (kk : mj_W p l e R s m args below meth c Q D cl A H0 n0 s0 (mj_mL Θ k) f') : mj_W p l e R s m args below meth c Q D cl A H0 n0 s0 (mj_mL Θ k) (pc, L, st, σ) := by
  obtain ⟨hx, hb, hml, hown, hts, hK, hKA, hin, hA, hok⟩ := C
  have h1 := ms_if h
  clear h
  obtain ⟨rfl, h⟩ := h1
  cases hc : mj_kl Θ (mj_o Θ k) ix with
  | none => rw [hc] at h; cases h
  | some v =>
    rw [hc] at h
    obtain rfl := ms_nx h
    intro H locs ls hH hl hS hdm hn hs
    exact lv_ldcw hx hb hown (hts _ (hok.2.2.2.2.1 _ _ _ hc)) hdg (kk H locs ls hH hl hS hdm hn hs)
theorem ms_ldi {j q : Nat} (h : mj_ldi j q L st σ = some (.inl f')) : ∃ x : Int32, L[j]? = some (some (.int x)) ∧ f' = (q, L, .int x :: st, σ) := by
  unfold mj_ldi at h
  split at h
  · next x hx => exact ⟨x, hx, ms_nx h⟩
  · cases h
theorem ms_lda {j q : Nat} (h : mj_lda j q L st σ = some (.inl f')) : (∃ x : Nat, L[j]? = some (some (.ref x)) ∧ f' = (q, L, .ref x :: st, σ)) ∨ (L[j]? = some (some .null) ∧ f' = (q, L, .null :: st, σ)) := by
  unfold mj_lda at h
  split at h
  · next x hx => exact Or.inl ⟨x, hx, ms_nx h⟩
  · next hx => exact Or.inr ⟨hx, ms_nx h⟩
  · cases h
theorem ms_sti {j q : Nat} (h : mj_sti j q L st σ = some (.inl f')) : ∃ (x : Int32) (r : List Value), st = .int x :: r ∧ j < L.length ∧ f' = (q, L.set j (some (.int x)), r, σ) := by
  unfold mj_sti at h
  split at h
  · next x r => exact ⟨x, r, rfl, (ms_if h).1, ms_nx (ms_if h).2⟩
  · cases h
theorem ms_sta {j q : Nat} (h : mj_sta j q L st σ = some (.inl f')) : (∃ (x : Nat) (r : List Value), st = .ref x :: r ∧ j < L.length ∧ f' = (q, L.set j (some (.ref x)), r, σ)) ∨ (∃ r : List Value, st = .null :: r ∧ j < L.length ∧ f' = (q, L.set j (some .null), r, σ)) := by
  unfold mj_sta at h
  split at h
  · next x r => exact Or.inl ⟨x, r, rfl, (ms_if h).1, ms_nx (ms_if h).2⟩
  · next r => exact Or.inr ⟨r, rfl, (ms_if h).1, ms_nx (ms_if h).2⟩
  · cases h
theorem ms_b2 {g : Int32 → Int32 → Option Int32} {q : Nat} (h : mj_b2 g q L st σ = some (.inl f')) : ∃ (x y z : Int32) (r : List Value), st = .int y :: .int x :: r ∧ g x y = some z ∧ f' = (q, L, .int z :: r, σ) := by
  unfold mj_b2 at h
  split at h
  · next y x r =>
    cases hz : g x y with
    | none => rw [hz] at h; cases h
    | some z => rw [hz] at h; exact ⟨x, y, z, r, rfl, hz, ms_nx h⟩
  · cases h
theorem ms_iload_n {j : Fin 4} (C : mj_Cx p s m args meth c Θ D cl Ts Rn k A H0) (hdg : decode (mj_cc Θ k) pc = .ok (.iload_n j, len)) (h : mj_i Θ k (.iload_n j) len pc L st σ = some (.inl f')) (kk : mj_W p l e R s m args below meth c Q D cl A H0 n0 s0 (mj_mL Θ k) f') : mj_W p l e R s m args below meth c Q D cl A H0 n0 s0 (mj_mL Θ k) (pc, L, st, σ) := by
  obtain ⟨hx, hb, hml, hown, hts, hK, hKA, hin, hA, hok⟩ := C
  have h1 := ms_if h
  clear h
  obtain ⟨rfl, h⟩ := h1
  obtain ⟨x, hx1, rfl⟩ := ms_ldi h
  intro H locs ls hH hl hS hdm hn hs
  exact lv_iload_n hx hb hdg rfl (hl.2.2.2 _ _ hx1).1 (kk H locs ls hH hl hS hdm hn hs)
theorem ms_iload {j : Nat} (C : mj_Cx p s m args meth c Θ D cl Ts Rn k A H0) (hdg : decode (mj_cc Θ k) pc = .ok (.iload j, len)) (h : mj_i Θ k (.iload j) len pc L st σ = some (.inl f')) (kk : mj_W p l e R s m args below meth c Q D cl A H0 n0 s0 (mj_mL Θ k) f') : mj_W p l e R s m args below meth c Q D cl A H0 n0 s0 (mj_mL Θ k) (pc, L, st, σ) := by
  obtain ⟨hx, hb, hml, hown, hts, hK, hKA, hin, hA, hok⟩ := C
  have h1 := ms_if h
  clear h
  obtain ⟨rfl, h⟩ := h1
  obtain ⟨x, hx1, rfl⟩ := ms_ldi h
  intro H locs ls hH hl hS hdm hn hs
  exact lv_iload hx hb hdg (hl.2.2.2 _ _ hx1).1 (kk H locs ls hH hl hS hdm hn hs)
theorem ms_aload_n {j : Fin 4} (C : mj_Cx p s m args meth c Θ D cl Ts Rn k A H0) (hdg : decode (mj_cc Θ k) pc = .ok (.aload_n j, len)) (h : mj_i Θ k (.aload_n j) len pc L st σ = some (.inl f')) (kk : mj_W p l e R s m args below meth c Q D cl A H0 n0 s0 (mj_mL Θ k) f') : mj_W p l e R s m args below meth c Q D cl A H0 n0 s0 (mj_mL Θ k) (pc, L, st, σ) := by
  obtain ⟨hx, hb, hml, hown, hts, hK, hKA, hin, hA, hok⟩ := C
  have h1 := ms_if h
  clear h
  obtain ⟨rfl, h⟩ := h1
  rcases ms_lda h with ⟨x, hx1, rfl⟩ | ⟨hx1, rfl⟩
  · intro H locs ls hH hl hS hdm hn hs
    exact lv_aload_n hx hb hdg rfl (hl.2.2.2 _ _ hx1).1 (kk H locs ls hH hl hS hdm hn hs)
  · intro H locs ls hH hl hS hdm hn hs
    exact lv_aload_nN hx hb hdg rfl (hl.2.2.2 _ _ hx1).1 (kk H locs ls hH hl hS hdm hn hs)
theorem ms_aload {j : Nat} (C : mj_Cx p s m args meth c Θ D cl Ts Rn k A H0) (hdg : decode (mj_cc Θ k) pc = .ok (.aload j, len)) (h : mj_i Θ k (.aload j) len pc L st σ = some (.inl f')) (kk : mj_W p l e R s m args below meth c Q D cl A H0 n0 s0 (mj_mL Θ k) f') : mj_W p l e R s m args below meth c Q D cl A H0 n0 s0 (mj_mL Θ k) (pc, L, st, σ) := by
  obtain ⟨hx, hb, hml, hown, hts, hK, hKA, hin, hA, hok⟩ := C
  have h1 := ms_if h
  clear h
  obtain ⟨rfl, h⟩ := h1
  rcases ms_lda h with ⟨x, hx1, rfl⟩ | ⟨hx1, rfl⟩
  · intro H locs ls hH hl hS hdm hn hs
    exact lv_aload hx hb hdg (hl.2.2.2 _ _ hx1).1 (kk H locs ls hH hl hS hdm hn hs)
  · intro H locs ls hH hl hS hdm hn hs
    exact lv_aloadN hx hb hdg (hl.2.2.2 _ _ hx1).1 (kk H locs ls hH hl hS hdm hn hs)
theorem ms_istore_n {j : Fin 4} (C : mj_Cx p s m args meth c Θ D cl Ts Rn k A H0) (hdg : decode (mj_cc Θ k) pc = .ok (.istore_n j, len)) (h : mj_i Θ k (.istore_n j) len pc L st σ = some (.inl f')) (kk : mj_W p l e R s m args below meth c Q D cl A H0 n0 s0 (mj_mL Θ k) f') : mj_W p l e R s m args below meth c Q D cl A H0 n0 s0 (mj_mL Θ k) (pc, L, st, σ) := by
  obtain ⟨hx, hb, hml, hown, hts, hK, hKA, hin, hA, hok⟩ := C
  have h1 := ms_if h
  clear h
  obtain ⟨rfl, h⟩ := h1
  obtain ⟨x, r, rfl, hj, rfl⟩ := ms_sti h
  intro H locs ls hH hl hS hdm hn hs
  exact lv_istore_n hx hb hdg rfl hl.has (by rw [← hl.1]; exact hj) rfl (fun ls' hl' => kk H locs ls' hH (hl.back hj rfl hl') hS hdm hn hs)
theorem ms_istore {j : Nat} (C : mj_Cx p s m args meth c Θ D cl Ts Rn k A H0) (hdg : decode (mj_cc Θ k) pc = .ok (.istore j, len)) (h : mj_i Θ k (.istore j) len pc L st σ = some (.inl f')) (kk : mj_W p l e R s m args below meth c Q D cl A H0 n0 s0 (mj_mL Θ k) f') : mj_W p l e R s m args below meth c Q D cl A H0 n0 s0 (mj_mL Θ k) (pc, L, st, σ) := by
  obtain ⟨hx, hb, hml, hown, hts, hK, hKA, hin, hA, hok⟩ := C
  have h1 := ms_if h
  clear h
  obtain ⟨rfl, h⟩ := h1
  obtain ⟨x, r, rfl, hj, rfl⟩ := ms_sti h
  intro H locs ls hH hl hS hdm hn hs
  exact lv_istore hx hb hdg hl.has (by rw [← hl.1]; exact hj) rfl (fun ls' hl' => kk H locs ls' hH (hl.back hj rfl hl') hS hdm hn hs)
theorem ms_astore_n {j : Fin 4} (C : mj_Cx p s m args meth c Θ D cl Ts Rn k A H0) (hdg : decode (mj_cc Θ k) pc = .ok (.astore_n j, len)) (h : mj_i Θ k (.astore_n j) len pc L st σ = some (.inl f')) (kk : mj_W p l e R s m args below meth c Q D cl A H0 n0 s0 (mj_mL Θ k) f') : mj_W p l e R s m args below meth c Q D cl A H0 n0 s0 (mj_mL Θ k) (pc, L, st, σ) := by
  obtain ⟨hx, hb, hml, hown, hts, hK, hKA, hin, hA, hok⟩ := C
  have h1 := ms_if h
  clear h
  obtain ⟨rfl, h⟩ := h1
  rcases ms_sta h with ⟨x, r, rfl, hj, rfl⟩ | ⟨r, rfl, hj, rfl⟩
  · intro H locs ls hH hl hS hdm hn hs
    exact lv_astore_n hx hb hdg rfl hl.has (by rw [← hl.1]; exact hj) rfl (fun ls' hl' => kk H locs ls' hH (hl.back hj rfl hl') hS hdm hn hs)
  · intro H locs ls hH hl hS hdm hn hs
    exact lv_astore_nN hx hb hdg rfl hl.has (by rw [← hl.1]; exact hj) rfl (fun ls' hl' => kk H locs ls' hH (hl.back hj rfl hl') hS hdm hn hs)
theorem ms_astore {j : Nat} (C : mj_Cx p s m args meth c Θ D cl Ts Rn k A H0) (hdg : decode (mj_cc Θ k) pc = .ok (.astore j, len)) (h : mj_i Θ k (.astore j) len pc L st σ = some (.inl f')) (kk : mj_W p l e R s m args below meth c Q D cl A H0 n0 s0 (mj_mL Θ k) f') : mj_W p l e R s m args below meth c Q D cl A H0 n0 s0 (mj_mL Θ k) (pc, L, st, σ) := by
  obtain ⟨hx, hb, hml, hown, hts, hK, hKA, hin, hA, hok⟩ := C
  have h1 := ms_if h
  clear h
  obtain ⟨rfl, h⟩ := h1
  rcases ms_sta h with ⟨x, r, rfl, hj, rfl⟩ | ⟨r, rfl, hj, rfl⟩
  · intro H locs ls hH hl hS hdm hn hs
    exact lv_astore hx hb hdg hl.has (by rw [← hl.1]; exact hj) rfl (fun ls' hl' => kk H locs ls' hH (hl.back hj rfl hl') hS hdm hn hs)
  · intro H locs ls hH hl hS hdm hn hs
    exact lv_astoreN hx hb hdg hl.has (by rw [← hl.1]; exact hj) rfl (fun ls' hl' => kk H locs ls' hH (hl.back hj rfl hl') hS hdm hn hs)
theorem ms_iinc {j : Nat} {n : Int} (C : mj_Cx p s m args meth c Θ D cl Ts Rn k A H0) (hdg : decode (mj_cc Θ k) pc = .ok (.iinc j n, len)) (h : mj_i Θ k (.iinc j n) len pc L st σ = some (.inl f')) (kk : mj_W p l e R s m args below meth c Q D cl A H0 n0 s0 (mj_mL Θ k) f') : mj_W p l e R s m args below meth c Q D cl A H0 n0 s0 (mj_mL Θ k) (pc, L, st, σ) := by
  obtain ⟨hx, hb, hml, hown, hts, hK, hKA, hin, hA, hok⟩ := C
  have h1 := ms_if h
  clear h
  obtain ⟨rfl, h⟩ := h1
  revert h
  split
  · next x hx1 =>
    intro h
    obtain rfl := ms_nx h
    intro H locs ls hH hl hS hdm hn hs
    have hj : j < L.length := (List.getElem?_eq_some_iff.mp hx1).1
    obtain ⟨i, hi⟩ := List.getElem?_of_mem (mj_lv_mem.mpr hx1)
    exact lv_iinc hx hb hdg hl.has hi rfl (by rw [← hl.1]; exact hj) rfl (fun ls' hl' => kk H locs ls' hH (hl.back hj rfl hl') hS hdm hn hs)
  · intro h
    cases h
theorem ms_iadd (C : mj_Cx p s m args meth c Θ D cl Ts Rn k A H0) (hdg : decode (mj_cc Θ k) pc = .ok (.iadd, len)) (h : mj_i Θ k (.iadd) len pc L st σ = some (.inl f')) (kk : mj_W p l e R s m args below meth c Q D cl A H0 n0 s0 (mj_mL Θ k) f') : mj_W p l e R s m args below meth c Q D cl A H0 n0 s0 (mj_mL Θ k) (pc, L, st, σ) := by
  obtain ⟨hx, hb, hml, hown, hts, hK, hKA, hin, hA, hok⟩ := C
  have h1 := ms_if h
  clear h
  obtain ⟨rfl, h⟩ := h1
  obtain ⟨x, y, z, r, rfl, hz, rfl⟩ := ms_b2 h
  cases hz
  intro H locs ls hH hl hS hdm hn hs
  exact lv_iadd hx hb hdg (kk H locs ls hH hl hS hdm hn hs)
theorem ms_isub (C : mj_Cx p s m args meth c Θ D cl Ts Rn k A H0) (hdg : decode (mj_cc Θ k) pc = .ok (.isub, len)) (h : mj_i Θ k (.isub) len pc L st σ = some (.inl f')) (kk : mj_W p l e R s m args below meth c Q D cl A H0 n0 s0 (mj_mL Θ k) f') : mj_W p l e R s m args below meth c Q D cl A H0 n0 s0 (mj_mL Θ k) (pc, L, st, σ) := by
  obtain ⟨hx, hb, hml, hown, hts, hK, hKA, hin, hA, hok⟩ := C
  have h1 := ms_if h
  clear h
  obtain ⟨rfl, h⟩ := h1
  obtain ⟨x, y, z, r, rfl, hz, rfl⟩ := ms_b2 h
  cases hz
  intro H locs ls hH hl hS hdm hn hs
  exact lv_isub hx hb hdg (kk H locs ls hH hl hS hdm hn hs)
theorem ms_imul (C : mj_Cx p s m args meth c Θ D cl Ts Rn k A H0) (hdg : decode (mj_cc Θ k) pc = .ok (.imul, len)) (h : mj_i Θ k (.imul) len pc L st σ = some (.inl f')) (kk : mj_W p l e R s m args below meth c Q D cl A H0 n0 s0 (mj_mL Θ k) f') : mj_W p l e R s m args below meth c Q D cl A H0 n0 s0 (mj_mL Θ k) (pc, L, st, σ) := by
  obtain ⟨hx, hb, hml, hown, hts, hK, hKA, hin, hA, hok⟩ := C
  have h1 := ms_if h
  clear h
  obtain ⟨rfl, h⟩ := h1
  obtain ⟨x, y, z, r, rfl, hz, rfl⟩ := ms_b2 h
  cases hz
  intro H locs ls hH hl hS hdm hn hs
  exact lv_imul hx hb hdg (kk H locs ls hH hl hS hdm hn hs)
theorem ms_iand (C : mj_Cx p s m args meth c Θ D cl Ts Rn k A H0) (hdg : decode (mj_cc Θ k) pc = .ok (.iand, len)) (h : mj_i Θ k (.iand) len pc L st σ = some (.inl f')) (kk : mj_W p l e R s m args below meth c Q D cl A H0 n0 s0 (mj_mL Θ k) f') : mj_W p l e R s m args below meth c Q D cl A H0 n0 s0 (mj_mL Θ k) (pc, L, st, σ) := by
  obtain ⟨hx, hb, hml, hown, hts, hK, hKA, hin, hA, hok⟩ := C
  have h1 := ms_if h
  clear h
  obtain ⟨rfl, h⟩ := h1
  obtain ⟨x, y, z, r, rfl, hz, rfl⟩ := ms_b2 h
  cases hz
  intro H locs ls hH hl hS hdm hn hs
  exact lv_iand hx hb hdg (kk H locs ls hH hl hS hdm hn hs)
theorem ms_ior (C : mj_Cx p s m args meth c Θ D cl Ts Rn k A H0) (hdg : decode (mj_cc Θ k) pc = .ok (.ior, len)) (h : mj_i Θ k (.ior) len pc L st σ = some (.inl f')) (kk : mj_W p l e R s m args below meth c Q D cl A H0 n0 s0 (mj_mL Θ k) f') : mj_W p l e R s m args below meth c Q D cl A H0 n0 s0 (mj_mL Θ k) (pc, L, st, σ) := by
  obtain ⟨hx, hb, hml, hown, hts, hK, hKA, hin, hA, hok⟩ := C
  have h1 := ms_if h
  clear h
  obtain ⟨rfl, h⟩ := h1
  obtain ⟨x, y, z, r, rfl, hz, rfl⟩ := ms_b2 h
  cases hz
  intro H locs ls hH hl hS hdm hn hs
  exact lv_ior hx hb hdg (kk H locs ls hH hl hS hdm hn hs)
theorem ms_ixor (C : mj_Cx p s m args meth c Θ D cl Ts Rn k A H0) (hdg : decode (mj_cc Θ k) pc = .ok (.ixor, len)) (h : mj_i Θ k (.ixor) len pc L st σ = some (.inl f')) (kk : mj_W p l e R s m args below meth c Q D cl A H0 n0 s0 (mj_mL Θ k) f') : mj_W p l e R s m args below meth c Q D cl A H0 n0 s0 (mj_mL Θ k) (pc, L, st, σ) := by
  obtain ⟨hx, hb, hml, hown, hts, hK, hKA, hin, hA, hok⟩ := C
  have h1 := ms_if h
  clear h
  obtain ⟨rfl, h⟩ := h1
  obtain ⟨x, y, z, r, rfl, hz, rfl⟩ := ms_b2 h
  cases hz
  intro H locs ls hH hl hS hdm hn hs
  exact lv_ixor hx hb hdg (kk H locs ls hH hl hS hdm hn hs)
theorem ms_ishl (C : mj_Cx p s m args meth c Θ D cl Ts Rn k A H0) (hdg : decode (mj_cc Θ k) pc = .ok (.ishl, len)) (h : mj_i Θ k (.ishl) len pc L st σ = some (.inl f')) (kk : mj_W p l e R s m args below meth c Q D cl A H0 n0 s0 (mj_mL Θ k) f') : mj_W p l e R s m args below meth c Q D cl A H0 n0 s0 (mj_mL Θ k) (pc, L, st, σ) := by
  obtain ⟨hx, hb, hml, hown, hts, hK, hKA, hin, hA, hok⟩ := C
  have h1 := ms_if h
  clear h
  obtain ⟨rfl, h⟩ := h1
  obtain ⟨x, y, z, r, rfl, hz, rfl⟩ := ms_b2 h
  cases hz
  intro H locs ls hH hl hS hdm hn hs
  exact lv_ishl hx hb hdg (kk H locs ls hH hl hS hdm hn hs)
theorem ms_ishr (C : mj_Cx p s m args meth c Θ D cl Ts Rn k A H0) (hdg : decode (mj_cc Θ k) pc = .ok (.ishr, len)) (h : mj_i Θ k (.ishr) len pc L st σ = some (.inl f')) (kk : mj_W p l e R s m args below meth c Q D cl A H0 n0 s0 (mj_mL Θ k) f') : mj_W p l e R s m args below meth c Q D cl A H0 n0 s0 (mj_mL Θ k) (pc, L, st, σ) := by
  obtain ⟨hx, hb, hml, hown, hts, hK, hKA, hin, hA, hok⟩ := C
  have h1 := ms_if h
  clear h
  obtain ⟨rfl, h⟩ := h1
  obtain ⟨x, y, z, r, rfl, hz, rfl⟩ := ms_b2 h
  cases hz
  intro H locs ls hH hl hS hdm hn hs
  exact lv_ishr hx hb hdg (kk H locs ls hH hl hS hdm hn hs)
theorem ms_iushr (C : mj_Cx p s m args meth c Θ D cl Ts Rn k A H0) (hdg : decode (mj_cc Θ k) pc = .ok (.iushr, len)) (h : mj_i Θ k (.iushr) len pc L st σ = some (.inl f')) (kk : mj_W p l e R s m args below meth c Q D cl A H0 n0 s0 (mj_mL Θ k) f') : mj_W p l e R s m args below meth c Q D cl A H0 n0 s0 (mj_mL Θ k) (pc, L, st, σ) := by
  obtain ⟨hx, hb, hml, hown, hts, hK, hKA, hin, hA, hok⟩ := C
  have h1 := ms_if h
  clear h
  obtain ⟨rfl, h⟩ := h1
  obtain ⟨x, y, z, r, rfl, hz, rfl⟩ := ms_b2 h
  cases hz
  intro H locs ls hH hl hS hdm hn hs
  exact lv_iushr hx hb hdg rfl (kk H locs ls hH hl hS hdm hn hs)
theorem ms_idiv (C : mj_Cx p s m args meth c Θ D cl Ts Rn k A H0) (hdg : decode (mj_cc Θ k) pc = .ok (.idiv, len)) (h : mj_i Θ k (.idiv) len pc L st σ = some (.inl f')) (kk : mj_W p l e R s m args below meth c Q D cl A H0 n0 s0 (mj_mL Θ k) f') : mj_W p l e R s m args below meth c Q D cl A H0 n0 s0 (mj_mL Θ k) (pc, L, st, σ) := by
  obtain ⟨hx, hb, hml, hown, hts, hK, hKA, hin, hA, hok⟩ := C
  have h1 := ms_if h
  clear h
  obtain ⟨rfl, h⟩ := h1
  obtain ⟨x, y, z, r, rfl, hz, rfl⟩ := ms_b2 h
  by_cases hy : y = 0
  · simp only [if_pos hy] at hz
    cases hz
  · simp only [if_neg hy] at hz
    cases hz
    intro H locs ls hH hl hS hdm hn hs
    exact lv_idiv hx hb hdg hy (kk H locs ls hH hl hS hdm hn hs)
theorem ms_irem (C : mj_Cx p s m args meth c Θ D cl Ts Rn k A H0) (hdg : decode (mj_cc Θ k) pc = .ok (.irem, len)) (h : mj_i Θ k (.irem) len pc L st σ = some (.inl f')) (kk : mj_W p l e R s m args below meth c Q D cl A H0 n0 s0 (mj_mL Θ k) f') : mj_W p l e R s m args below meth c Q D cl A H0 n0 s0 (mj_mL Θ k) (pc, L, st, σ) := by
  obtain ⟨hx, hb, hml, hown, hts, hK, hKA, hin, hA, hok⟩ := C
  have h1 := ms_if h
  clear h
  obtain ⟨rfl, h⟩ := h1
  obtain ⟨x, y, z, r, rfl, hz, rfl⟩ := ms_b2 h
  by_cases hy : y = 0
  · simp only [if_pos hy] at hz
    cases hz
  · simp only [if_neg hy] at hz
    cases hz
    intro H locs ls hH hl hS hdm hn hs
    exact lv_irem hx hb hdg hy (kk H locs ls hH hl hS hdm hn hs)
theorem ms_dup (C : mj_Cx p s m args meth c Θ D cl Ts Rn k A H0) (hdg : decode (mj_cc Θ k) pc = .ok (.dup, len)) (h : mj_i Θ k (.dup) len pc L st σ = some (.inl f')) (kk : mj_W p l e R s m args below meth c Q D cl A H0 n0 s0 (mj_mL Θ k) f') : mj_W p l e R s m args below meth c Q D cl A H0 n0 s0 (mj_mL Θ k) (pc, L, st, σ) := by
  obtain ⟨hx, hb, hml, hown, hts, hK, hKA, hin, hA, hok⟩ := C
  have h1 := ms_if h
  clear h
  obtain ⟨rfl, h⟩ := h1
  revert h
  split
  · intro h
    obtain rfl := ms_nx h
    intro H locs ls hH hl hS hdm hn hs
    exact lv_dup hx hb hdg rfl (kk H locs ls hH hl hS hdm hn hs)
  · intro h
    obtain rfl := ms_nx h
    intro H locs ls hH hl hS hdm hn hs
    exact lv_dup hx hb hdg rfl (kk H locs ls hH hl hS hdm hn hs)
  · intro h
    cases h
theorem ms_dup2 (C : mj_Cx p s m args meth c Θ D cl Ts Rn k A H0) (hdg : decode (mj_cc Θ k) pc = .ok (.dup2, len)) (h : mj_i Θ k (.dup2) len pc L st σ = some (.inl f')) (kk : mj_W p l e R s m args below meth c Q D cl A H0 n0 s0 (mj_mL Θ k) f') : mj_W p l e R s m args below meth c Q D cl A H0 n0 s0 (mj_mL Θ k) (pc, L, st, σ) := by
  obtain ⟨hx, hb, hml, hown, hts, hK, hKA, hin, hA, hok⟩ := C
  have h1 := ms_if h
  clear h
  obtain ⟨rfl, h⟩ := h1
  revert h
  split
  · intro h
    obtain rfl := ms_nx h
    intro H locs ls hH hl hS hdm hn hs
    exact lv_dup2_11 hx hb hdg rfl rfl (kk H locs ls hH hl hS hdm hn hs)
  · intro h
    obtain rfl := ms_nx h
    intro H locs ls hH hl hS hdm hn hs
    exact lv_dup2_11 hx hb hdg rfl rfl (kk H locs ls hH hl hS hdm hn hs)
  · intro h
    cases h
theorem ms_pop (C : mj_Cx p s m args meth c Θ D cl Ts Rn k A H0) (hdg : decode (mj_cc Θ k) pc = .ok (.pop, len)) (h : mj_i Θ k (.pop) len pc L st σ = some (.inl f')) (kk : mj_W p l e R s m args below meth c Q D cl A H0 n0 s0 (mj_mL Θ k) f') : mj_W p l e R s m args below meth c Q D cl A H0 n0 s0 (mj_mL Θ k) (pc, L, st, σ) := by
  obtain ⟨hx, hb, hml, hown, hts, hK, hKA, hin, hA, hok⟩ := C
  have h1 := ms_if h
  clear h
  obtain ⟨rfl, h⟩ := h1
  revert h
  split
  · intro h
    obtain rfl := ms_nx h
    intro H locs ls hH hl hS hdm hn hs
    exact lv_pop hx hb hdg rfl (kk H locs ls hH hl hS hdm hn hs)
  · intro h
    obtain rfl := ms_nx h
    intro H locs ls hH hl hS hdm hn hs
    exact lv_pop hx hb hdg rfl (kk H locs ls hH hl hS hdm hn hs)
  · intro h
    obtain rfl := ms_nx h
    intro H locs ls hH hl hS hdm hn hs
    exact lv_pop hx hb hdg rfl (kk H locs ls hH hl hS hdm hn hs)
  · intro h
    cases h
theorem ms_goto {off : Int} (C : mj_Cx p s m args meth c Θ D cl Ts Rn k A H0) (hdg : decode (mj_cc Θ k) pc = .ok (.goto off, len)) (h : mj_i Θ k (.goto off) len pc L st σ = some (.inl f')) (kk : mj_W p l e R s m args below meth c Q D cl A H0 n0 s0 (mj_mL Θ k) f') : mj_W p l e R s m args below meth c Q D cl A H0 n0 s0 (mj_mL Θ k) (pc, L, st, σ) := by
  obtain ⟨hx, hb, hml, hown, hts, hK, hKA, hin, hA, hok⟩ := C
  have h1 := ms_if h
  clear h
  obtain ⟨rfl, h⟩ := h1
  obtain ⟨tgt, ht, rfl⟩ := ms_j h
  intro H locs ls hH hl hS hdm hn hs
  exact lv_goto hx hb hdg ht (kk H locs ls hH hl hS hdm hn hs)
theorem ms_tgt {off : Int} (h : 0 ≤ (pc : Int) + off) : (pc : Int) + off = ((((pc : Int) + off).toNat : Nat) : Int) := by omega
theorem ms_ifCond {cn : ClassFile.Cond} {off : Int} (C : mj_Cx p s m args meth c Θ D cl Ts Rn k A H0) (hdg : decode (mj_cc Θ k) pc = .ok (.ifCond cn off, len)) (h : mj_i Θ k (.ifCond cn off) len pc L st σ = some (.inl f')) (kk : mj_W p l e R s m args below meth c Q D cl A H0 n0 s0 (mj_mL Θ k) f') : mj_W p l e R s m args below meth c Q D cl A H0 n0 s0 (mj_mL Θ k) (pc, L, st, σ) := by
  obtain ⟨hx, hb, hml, hown, hts, hK, hKA, hin, hA, hok⟩ := C
  have h1 := ms_if h
  clear h
  obtain ⟨⟨rfl, hoff⟩, h⟩ := h1
  revert h
  split
  · next x r =>
    intro h
    by_cases hc : mj_iif cn x 0 = true
    · rw [if_pos hc] at h
      obtain ⟨tgt, ht, rfl⟩ := ms_j h
      intro H locs ls hH hl hS hdm hn hs
      have K := kk H locs ls hH hl hS hdm hn hs
      cases cn <;> simp only [mj_iif, decide_eq_true_eq] at hc
      · exact lv_if_eq hx hb hdg ht (fun _ => K) (fun q => absurd hc q)
      · exact lv_if_ne hx hb hdg ht (fun _ => K) (fun q => absurd q hc)
      · exact lv_if_lt hx hb hdg ht (fun _ => K) (fun q => absurd hc q)
      · exact lv_if_ge hx hb hdg ht (fun _ => K) (fun q => absurd hc q)
      · exact lv_if_gt hx hb hdg ht (fun _ => K) (fun q => absurd hc q)
      · exact lv_if_le hx hb hdg ht (fun _ => K) (fun q => absurd hc q)
    · rw [if_neg hc] at h
      obtain rfl := ms_nx h
      intro H locs ls hH hl hS hdm hn hs
      have K := kk H locs ls hH hl hS hdm hn hs
      cases cn <;> simp only [mj_iif, decide_eq_true_eq, Decidable.not_not] at hc
      · exact lv_if_eq hx hb hdg (ms_tgt hoff) (fun q => absurd q hc) (fun _ => K)
      · exact lv_if_ne hx hb hdg (ms_tgt hoff) (fun q => absurd hc q) (fun _ => K)
      · exact lv_if_lt hx hb hdg (ms_tgt hoff) (fun q => absurd q hc) (fun _ => K)
      · exact lv_if_ge hx hb hdg (ms_tgt hoff) (fun q => absurd q hc) (fun _ => K)
      · exact lv_if_gt hx hb hdg (ms_tgt hoff) (fun q => absurd q hc) (fun _ => K)
      · exact lv_if_le hx hb hdg (ms_tgt hoff) (fun q => absurd q hc) (fun _ => K)
  · intro h
    cases h
theorem ms_if_icmp {cn : ClassFile.Cond} {off : Int} (C : mj_Cx p s m args meth c Θ D cl Ts Rn k A H0) (hdg : decode (mj_cc Θ k) pc = .ok (.if_icmp cn off, len)) (h : mj_i Θ k (.if_icmp cn off) len pc L st σ = some (.inl f')) (kk : mj_W p l e R s m args below meth c Q D cl A H0 n0 s0 (mj_mL Θ k) f') : mj_W p l e R s m args below meth c Q D cl A H0 n0 s0 (mj_mL Θ k) (pc, L, st, σ) := by
  obtain ⟨hx, hb, hml, hown, hts, hK, hKA, hin, hA, hok⟩ := C
  have h1 := ms_if h
  clear h
  obtain ⟨⟨rfl, hoff⟩, h⟩ := h1
  revert h
  split
  · next y x r =>
    intro h
    by_cases hc : mj_iif cn x y = true
    · rw [if_pos hc] at h
      obtain ⟨tgt, ht, rfl⟩ := ms_j h
      intro H locs ls hH hl hS hdm hn hs
      have K := kk H locs ls hH hl hS hdm hn hs
      cases cn <;> simp only [mj_iif, decide_eq_true_eq] at hc
      · exact lv_icmp_eq hx hb hdg ht (fun _ => K) (fun q => absurd hc q)
      · exact lv_icmp_ne hx hb hdg ht (fun _ => K) (fun q => absurd q hc)
      · exact lv_icmp_lt hx hb hdg ht (fun _ => K) (fun q => absurd hc q)
      · exact lv_icmp_ge hx hb hdg ht (fun _ => K) (fun q => absurd hc q)
      · exact lv_icmp_gt hx hb hdg ht (fun _ => K) (fun q => absurd hc q)
      · exact lv_icmp_le hx hb hdg ht (fun _ => K) (fun q => absurd hc q)
    · rw [if_neg hc] at h
      obtain rfl := ms_nx h
      intro H locs ls hH hl hS hdm hn hs
      have K := kk H locs ls hH hl hS hdm hn hs
      cases cn <;> simp only [mj_iif, decide_eq_true_eq, Decidable.not_not] at hc
      · exact lv_icmp_eq hx hb hdg (ms_tgt hoff) (fun q => absurd q hc) (fun _ => K)
      · exact lv_icmp_ne hx hb hdg (ms_tgt hoff) (fun q => absurd hc q) (fun _ => K)
      · exact lv_icmp_lt hx hb hdg (ms_tgt hoff) (fun q => absurd q hc) (fun _ => K)
      · exact lv_icmp_ge hx hb hdg (ms_tgt hoff) (fun q => absurd q hc) (fun _ => K)
      · exact lv_icmp_gt hx hb hdg (ms_tgt hoff) (fun q => absurd q hc) (fun _ => K)
      · exact lv_icmp_le hx hb hdg (ms_tgt hoff) (fun q => absurd q hc) (fun _ => K)
  · intro h
    cases h
theorem ms_ifnull {off : Int} (C : mj_Cx p s m args meth c Θ D cl Ts Rn k A H0) (hdg : decode (mj_cc Θ k) pc = .ok (.ifnull off, len)) (h : mj_i Θ k (.ifnull off) len pc L st σ = some (.inl f')) (kk : mj_W p l e R s m args below meth c Q D cl A H0 n0 s0 (mj_mL Θ k) f') : mj_W p l e R s m args below meth c Q D cl A H0 n0 s0 (mj_mL Θ k) (pc, L, st, σ) := by
  obtain ⟨hx, hb, hml, hown, hts, hK, hKA, hin, hA, hok⟩ := C
  have h1 := ms_if h
  clear h
  obtain ⟨rfl, h⟩ := h1
  revert h
  split
  · intro h
    obtain ⟨tgt, ht, rfl⟩ := ms_j h
    intro H locs ls hH hl hS hdm hn hs
    exact lv_ifnullN hx hb hdg ht (kk H locs ls hH hl hS hdm hn hs)
  · intro h
    obtain rfl := ms_nx h
    intro H locs ls hH hl hS hdm hn hs
    exact lv_ifnull hx hb hdg (kk H locs ls hH hl hS hdm hn hs)
  · intro h
    cases h
theorem ms_ifnonnull {off : Int} (C : mj_Cx p s m args meth c Θ D cl Ts Rn k A H0) (hdg : decode (mj_cc Θ k) pc = .ok (.ifnonnull off, len)) (h : mj_i Θ k (.ifnonnull off) len pc L st σ = some (.inl f')) (kk : mj_W p l e R s m args below meth c Q D cl A H0 n0 s0 (mj_mL Θ k) f') : mj_W p l e R s m args below meth c Q D cl A H0 n0 s0 (mj_mL Θ k) (pc, L, st, σ) := by
  obtain ⟨hx, hb, hml, hown, hts, hK, hKA, hin, hA, hok⟩ := C
  have h1 := ms_if h
  clear h
  obtain ⟨rfl, h⟩ := h1
  revert h
  split
  · intro h
    obtain rfl := ms_nx h
    intro H locs ls hH hl hS hdm hn hs
    exact lv_ifnonnullN hx hb hdg (kk H locs ls hH hl hS hdm hn hs)
  · intro h
    obtain ⟨tgt, ht, rfl⟩ := ms_j h
    intro H locs ls hH hl hS hdm hn hs
    exact lv_ifnonnull hx hb hdg ht (kk H locs ls hH hl hS hdm hn hs)
  · intro h
    cases h
theorem ms_tableswitch {dflt lo hi : Int} {offs : Array Int} (C : mj_Cx p s m args meth c Θ D cl Ts Rn k A H0) (hdg : decode (mj_cc Θ k) pc = .ok (.tableswitch dflt lo hi offs, len)) (h : mj_i Θ k (.tableswitch dflt lo hi offs) len pc L st σ = some (.inl f')) (kk : mj_W p l e R s m args below meth c Q D cl A H0 n0 s0 (mj_mL Θ k) f') : mj_W p l e R s m args below meth c Q D cl A H0 n0 s0 (mj_mL Θ k) (pc, L, st, σ) := by
  obtain ⟨hx, hb, hml, hown, hts, hK, hKA, hin, hA, hok⟩ := C
  simp only [mj_i] at h
  revert h
  split
  · next x r =>
    intro h
    by_cases hc : x.toInt < lo ∨ hi < x.toInt
    · rw [if_pos hc] at h
      obtain ⟨tgt, ht, rfl⟩ := ms_j h
      intro H locs ls hH hl hS hdm hn hs
      exact lv_tableOut hx hb hdg hc ht (kk H locs ls hH hl hS hdm hn hs)
    · rw [if_neg hc] at h
      cases ho : offs[(x.toInt - lo).toNat]? with
      | none => rw [ho] at h; cases h
      | some off =>
        rw [ho] at h
        obtain ⟨tgt, ht, rfl⟩ := ms_j h
        intro H locs ls hH hl hS hdm hn hs
        exact lv_tableIn hx hb hdg (fun q => hc (Or.inl q)) (fun q => hc (Or.inr q)) ho ht (kk H locs ls hH hl hS hdm hn hs)
  · intro h
    cases h
end MJS
