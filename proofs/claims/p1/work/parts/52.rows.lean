section CM
variable {ar : Nat → ClassId} {A A' : tg_T → Nat} {s s' : cs_S} {σ : mj_S} {e e0 : va_E} {w : Nat → Int32} {k i x : Nat} {Q : (Option Value ⊕ String) → mj_S → Prop}
/-- (k, i) is a Row: a node's, a promise's, a message's -/
def cs_R (s : cs_S) (k i : Nat) : Prop := (k = 10 ∧ i < 2 * s.1 - 1) ∨ (k = 27 ∧ i / 16 < s.1 ∧ i % 16 < 2 * s.1 - 1) ∨ (k = 31 ∧ i < s.2.1 ∧ s.2.2.1 i = true)
theorem cs_R0 {r : Nat → Option Nat} (h : cs_R s k i) : cs_c ar A s.1 s.2.1 s.2.2.1 r w i k = some (.inr (7, [.ref (A (k + 1, i)), .ref (A (k + 2, i)), .int (w 2), .int (w 3)])) := by
  rcases h with ⟨rfl, h⟩ | ⟨rfl, h⟩ | ⟨rfl, h⟩
  · exact if_pos h
  · exact if_pos h
  · exact if_pos h
theorem cs_R1 {r : Nat → Option Nat} (h : cs_R s k i) : cs_c ar A s.1 s.2.1 s.2.2.1 r w i (k + 1) = some (w_ia ar 100 w) := by
  rcases h with ⟨rfl, h⟩ | ⟨rfl, h⟩ | ⟨rfl, h⟩
  · exact if_pos h
  · exact if_pos h
  · exact if_pos h
theorem cs_R2 {r : Nat → Option Nat} (h : cs_R s k i) : cs_c ar A s.1 s.2.1 s.2.2.1 r w i (k + 2) = some (w_ia ar 100 w) := by
  rcases h with ⟨rfl, h⟩ | ⟨rfl, h⟩ | ⟨rfl, h⟩
  · exact if_pos h
  · exact if_pos h
  · exact if_pos h
/-- a Row's three cells are set: ballots, commands, low and end -/
def cs_u3 (s : cs_S) (k i : Nat) (f g : Nat → Int32) (lo en : Int32) : cs_S := cs_u (cs_u (cs_u s (k + 1) i f) (k + 2) i g) k i (upd (upd (cs_v s k i) 2 lo) 3 en)
theorem cs_set3 {f g : Nat → Int32} {lo en : Int32} (h : tg_R A (cs_h ar A s) σ) (hR : cs_R s k i) : tg_R A (cs_h ar A (cs_u3 s k i f g lo en)) (mj_up (mj_up (mj_up σ (A (k + 1, i)) (w_ia ar 100 f)) (A (k + 2, i)) (w_ia ar 100 g)) (A (k, i)) (.inr (7, [.ref (A (k + 1, i)), .ref (A (k + 2, i)), .int lo, .int en]))) := by
  have h1 := cs_set (w := f) (k := k + 1) (i := i) h (cs_R1 hR) (cs_R1 hR)
  have R1 : cs_R (cs_u s (k + 1) i f) k i := hR
  have h2 := cs_set (w := g) (k := k + 2) (i := i) h1 (cs_R2 R1) (cs_R2 R1)
  have R2 : cs_R (cs_u (cs_u s (k + 1) i f) (k + 2) i g) k i := hR
  refine cs_set (w := upd (upd (cs_v s k i) 2 lo) 3 en) (k := k) (i := i) h2 (cs_R0 R2) ?_
  rw [cs_R0 R2, w_set_at, w_set_ne (by decide), w_set_at]
theorem cs_R_ne {k' i' : Nat} {a b : Nat} (h : tg_R A (cs_h ar A s) σ) (hR : cs_R s k i) (hR' : cs_R s k' i') (ha : a < 3) (hb : b < 3) (hn : k + a ≠ k' + b ∨ i ≠ i') : A (k + a, i) ≠ A (k' + b, i') := by
  have l : ∀ (k i a : Nat), cs_R s k i → a < 3 → ∃ e, cs_h ar A s (k + a, i) = some e := by
    intro k i a hR ha
    match a, ha with
    | 0, _ => exact ⟨_, cs_R0 hR⟩
    | 1, _ => exact ⟨_, cs_R1 hR⟩
    | 2, _ => exact ⟨_, cs_R2 hR⟩
  obtain ⟨e, he⟩ := l k i a hR ha
  obtain ⟨e', he'⟩ := l k' i' b hR' hb
  refine tg_ne h he he' (fun q => ?_)
  rcases hn with hn | hn
  · exact hn (congrArg Prod.fst q)
  · exact hn (congrArg Prod.snd q)
theorem C_put {sl : Nat} {x y : Int32} (h : tg_R A (cs_h ar A s) σ) (hR : cs_R s k i) (hs : sl < 100) (hQ : ∀ τ, cs_n σ τ → tg_R A (cs_h ar A (cs_u3 s k i (upd (cs_v s (k + 1) i) sl x) (upd (cs_v s (k + 2) i) sl y) (cs_v s k i 2) (if cs_v s k i 3 < nI (sl + 1) then nI (sl + 1) else cs_v s k i 3))) τ → Q (.inl none) τ) : mj_wp (tb ar) 32 (mj_en (tb ar) 32 [.ref (A (k, i)), .int (nI sl), .int x, .int y] σ) Q := by
  rw [w_put (a := A (k, i)) (cs_R_ne (a := 0) (b := 1) h hR hR (by decide) (by decide) (by omega)) (cs_R_ne (a := 0) (b := 2) h hR hR (by decide) (by decide) (by omega)) (cs_R_ne (a := 2) (b := 1) h hR hR (by decide) (by decide) (by omega)) (cs_g h (cs_R0 hR)) (cs_g h (cs_R1 hR)) (cs_g h (cs_R2 hR)) hs]
  exact hQ _ ⟨rfl, rfl⟩ (cs_set3 h hR)
theorem C_forget {lo en f : Nat} (h : tg_R A (cs_h ar A s) σ) (hR : cs_R s k i) (hlo : cs_v s k i 2 = nI lo) (hen : cs_v s k i 3 = nI en) (he : en ≤ 100) (hl : lo < f) (hf : f < 2 ^ 31) (hQ : ∀ τ, cs_n σ τ → tg_R A (cs_h ar A (cs_u3 s k i (w_clr (cs_v s (k + 1) i) lo (min f en)) (w_clr (cs_v s (k + 2) i) lo (min f en)) (nI f) (if en ≤ f then 0 else nI en))) τ → Q (.inl none) τ) : mj_wp (tb ar) 33 (mj_en (tb ar) 33 [.ref (A (k, i)), .int (nI f)] σ) Q := by
  have g0 := cs_g h (cs_R0 hR)
  rw [hlo, hen] at g0
  rw [w_forget (a := A (k, i)) (cs_R_ne (a := 0) (b := 1) h hR hR (by decide) (by decide) (by omega)) (cs_R_ne (a := 0) (b := 2) h hR hR (by decide) (by decide) (by omega)) (cs_R_ne (a := 2) (b := 1) h hR hR (by decide) (by decide) (by omega)) g0 (cs_g h (cs_R1 hR)) (cs_g h (cs_R2 hR)) he hl hf]
  exact hQ _ ⟨rfl, rfl⟩ (cs_set3 h hR)
/-- what stands behind copy -/
def cs_cp (s : cs_S) (k i k' i' : Nat) (m : Nat) : cs_S := cs_u3 s k i (va_cpy (cs_v s (k' + 1) i') (cs_v s (k + 1) i) 0 0 m) (va_cpy (cs_v s (k' + 2) i') (cs_v s (k + 2) i) 0 0 m) (cs_v s k' i' 2) (cs_v s k' i' 3)
theorem C_copy {k' i' en en' : Nat} (h : tg_R A (cs_h ar A s) σ) (hR : cs_R s k i) (hR' : cs_R s k' i') (hne : k ≠ k' ∨ i ≠ i') (hen : cs_v s k i 3 = nI en) (hen' : cs_v s k' i' 3 = nI en') (he : en ≤ 100) (he' : en' ≤ 100) (hQ : ∀ τ, cs_n σ τ → tg_R A (cs_h ar A (cs_cp s k i k' i' (max en en'))) τ → Q (.inl none) τ) : mj_wp (tb ar) 34 (mj_en (tb ar) 34 [.ref (A (k, i)), .ref (A (k', i'))] σ) Q := by
  have g0 := cs_g h (cs_R0 hR)
  have g0' := cs_g h (cs_R0 hR')
  rw [hen] at g0
  rw [hen'] at g0'
  have kk : ∀ a b, a < 3 → b < 3 → k' + a ≠ k + b ∨ i' ≠ i := by
    intro a b ha hb
    rcases hne with q | q
    · refine Or.inl ?_
      rcases hR with ⟨rfl, -⟩ | ⟨rfl, -⟩ | ⟨rfl, -⟩ <;> rcases hR' with ⟨rfl, -⟩ | ⟨rfl, -⟩ | ⟨rfl, -⟩ <;> omega
    · exact Or.inr (Ne.symm q)
  rw [w_copy (a := A (k, i)) (o := A (k', i')) rfl (cs_R_ne (a := 0) (b := 1) h hR hR (by decide) (by decide) (by omega)) (cs_R_ne (a := 0) (b := 2) h hR hR (by decide) (by decide) (by omega)) (cs_R_ne (a := 2) (b := 1) h hR hR (by decide) (by decide) (by omega)) (cs_R_ne (a := 0) (b := 1) h hR' hR (by decide) (by decide) (kk 0 1 (by decide) (by decide))) (cs_R_ne (a := 0) (b := 2) h hR' hR (by decide) (by decide) (kk 0 2 (by decide) (by decide))) (cs_R_ne (a := 0) (b := 0) h hR' hR (by decide) (by decide) (kk 0 0 (by decide) (by decide))) (cs_R_ne (a := 1) (b := 1) h hR' hR (by decide) (by decide) (kk 1 1 (by decide) (by decide))) (cs_R_ne (a := 2) (b := 1) h hR' hR (by decide) (by decide) (kk 2 1 (by decide) (by decide))) (cs_R_ne (a := 2) (b := 2) h hR' hR (by decide) (by decide) (kk 2 2 (by decide) (by decide))) g0 (cs_g h (cs_R1 hR)) (cs_g h (cs_R2 hR)) g0' (cs_g h (cs_R1 hR')) (cs_g h (cs_R2 hR')) he he']
  refine hQ _ ⟨rfl, rfl⟩ ?_
  unfold cs_cp
  rw [hen']
  exact cs_set3 h hR
end CM
