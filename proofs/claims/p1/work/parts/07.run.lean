section MJR
variable {Θ : mj_T} {k : Nat} {pc len : Nat} {L : List (Option Value)} {st : List Value} {σ : mj_S} {f' : mj_F}
/-- the store only grows -/
def mj_le (σ τ : mj_S) : Prop := σ.1 ≤ τ.1 ∧ σ.2.1 ≤ τ.2.1 ∧ ∀ (a : Nat) (x : va_E), τ.2.2 a = some x → (∃ y : va_E, σ.2.2 a = some y) ∨ σ.1 ≤ a
theorem mj_le.rf : mj_le σ σ := ⟨Nat.le_refl _, Nat.le_refl _, fun _ x h => Or.inl ⟨x, h⟩⟩
theorem mj_le.tr {τ υ : mj_S} (h : mj_le σ τ) (h' : mj_le τ υ) : mj_le σ υ := by
  refine ⟨Nat.le_trans h.1 h'.1, Nat.le_trans h.2.1 h'.2.1, fun a x hx => ?_⟩
  rcases h'.2.2 a x hx with ⟨y, hy⟩ | hy
  · exact h.2.2 a y hy
  · exact Or.inr (Nat.le_trans h.1 hy)
theorem mj_le.up {a : Nat} {x y : va_E} (h : σ.2.2 a = some y) : mj_le σ (mj_up σ a x) := by
  refine ⟨Nat.le_refl _, Nat.le_refl _, fun b z hb => ?_⟩
  unfold mj_up at hb
  dsimp only at hb
  by_cases hab : b = a
  · subst hab; exact Or.inl ⟨y, h⟩
  · rw [if_neg hab] at hb; exact Or.inl ⟨z, hb⟩
theorem mj_le.add {n : Nat} {x : va_E} : mj_le σ (mj_add σ n x) := by
  refine ⟨Nat.le_succ _, Nat.le_add_right _ _, fun b z hb => ?_⟩
  unfold mj_add at hb
  dsimp only at hb
  by_cases hab : b = σ.1
  · exact Or.inr (Nat.le_of_eq hab.symm)
  · rw [if_neg hab] at hb; exact Or.inl ⟨z, hb⟩
set_option maxHeartbeats 4000000 in
theorem mj_st_le {f : mj_F} (h : mj_st Θ k f = some (.inl f')) : mj_le f.2.2.2 f'.2.2.2 := by
  obtain ⟨pc, L, st, σ⟩ := f
  unfold mj_st at h
  dsimp only at h ⊢
  cases hdg : decode (mj_cc Θ k) pc with
  | error x => rw [hdg] at h; cases h
  | ok q =>
    obtain ⟨i, len⟩ := q
    rw [hdg] at h
    dsimp only at h
    cases i <;> simp only [mj_i, mj_j, mj_ldi, mj_lda, mj_sti, mj_sta, mj_b2, mj_get, mj_put, mj_iald, mj_iast, mj_zast, mj_aald, mj_aast, mj_alen, mj_newa, mj_anew, mj_new, mj_cpy, mj_mm, mj_call, mj_nx] at h <;> (try (cases h; done)) <;> (repeat' split at h) <;> (first | (cases h; done) | (cases h; exact mj_le.rf) | (cases h; exact mj_le.up (by assumption)) | (cases h; exact mj_le.add))
theorem mj_st_call {f g : mj_F} {y : Nat} {as : List Value} (h : mj_st Θ k f = some (.inr (.inr (.inr (y, as, g))))) : ∃ (d ix : Nat), ((d = 0 ∧ decode (mj_cc Θ k) f.1 = .ok (.invokevirtual ix, 3)) ∨ (d = 1 ∧ decode (mj_cc Θ k) f.1 = .ok (.invokestatic ix, 3)) ∨ (d = 2 ∧ decode (mj_cc Θ k) f.1 = .ok (.invokespecial ix, 3))) ∧ mj_ml Θ (mj_o Θ k) ix = some y ∧ (y < 900 ∧ mj_kd Θ y = d ∧ mj_na Θ y ≤ f.2.2.1.length ∧ mj_fr Θ y + 1 ≤ mj_fr Θ k ∧ 8 + (mj_mL Θ y + 11) + mj_lo Θ y ≤ mj_lo Θ k ∧ (f.2.2.1.map fun v => v.category) = f.2.2.1.map (fun _ => 1) ∧ f.2.2.1.length ≤ mj_na Θ y + 8 ∧ mj_rcv Θ d y (f.2.2.1.take (mj_na Θ y)).reverse f.2.2.2 = true) ∧ as = (f.2.2.1.take (mj_na Θ y)).reverse ∧ g = (f.1 + 3, f.2.1, f.2.2.1.drop (mj_na Θ y), f.2.2.2) := by
  obtain ⟨pc, L, st, σ⟩ := f
  unfold mj_st at h
  dsimp only at h ⊢
  have key : ∀ (d y' : Nat), mj_call Θ d k y' (pc + 3) L st σ = some (.inr (.inr (.inr (y, as, g)))) → y' = y ∧ (y < 900 ∧ mj_kd Θ y = d ∧ mj_na Θ y ≤ st.length ∧ mj_fr Θ y + 1 ≤ mj_fr Θ k ∧ 8 + (mj_mL Θ y + 11) + mj_lo Θ y ≤ mj_lo Θ k ∧ (st.map fun v => v.category) = st.map (fun _ => 1) ∧ st.length ≤ mj_na Θ y + 8 ∧ mj_rcv Θ d y (st.take (mj_na Θ y)).reverse σ = true) ∧ as = (st.take (mj_na Θ y)).reverse ∧ g = (pc + 3, L, st.drop (mj_na Θ y), σ) := by
    intro d y' hc
    unfold mj_call at hc
    split at hc
    · next hq => cases hc; exact ⟨rfl, hq, rfl, rfl⟩
    · cases hc
  cases hdg : decode (mj_cc Θ k) pc with
  | error x => rw [hdg] at h; cases h
  | ok q =>
    obtain ⟨i, len⟩ := q
    rw [hdg] at h
    dsimp only at h
    cases i with
    | invokevirtual ix =>
      simp only [mj_i] at h
      split at h
      · next hlen =>
        subst hlen
        split at h
        · next y' hm =>
          obtain ⟨rfl, h2, h3, h4⟩ := key 0 y' h
          exact ⟨0, ix, Or.inl ⟨rfl, rfl⟩, hm, h2, h3, h4⟩
        · cases h
      · cases h
    | invokestatic ix =>
      simp only [mj_i] at h
      split at h
      · next hlen =>
        subst hlen
        split at h
        · next hm =>
          split at h
          · simp only [mj_cpy, mj_nx] at h
            (repeat' split at h) <;> cases h
          · cases h
        · split at h
          · simp only [mj_mm, mj_nx] at h
            (repeat' split at h) <;> cases h
          · cases h
        · split at h
          · simp only [mj_mm, mj_nx] at h
            (repeat' split at h) <;> cases h
          · cases h
        · next y' hm hm2 =>
          obtain ⟨rfl, h2, h3, h4⟩ := key 1 _ h
          exact ⟨1, ix, Or.inr (Or.inl ⟨rfl, rfl⟩), by assumption, h2, h3, h4⟩
        · cases h
      · cases h
    | invokespecial ix =>
      simp only [mj_i] at h
      split at h
      · next hlen =>
        subst hlen
        split at h
        · next hm =>
          simp only [mj_nx] at h
          (repeat' split at h) <;> cases h
        · next y' hm hm2 =>
          obtain ⟨rfl, h2, h3, h4⟩ := key 2 _ h
          exact ⟨2, ix, Or.inr (Or.inr ⟨rfl, rfl⟩), by assumption, h2, h3, h4⟩
        · cases h
      · cases h
    | _ =>
      exfalso
      simp only [mj_i, mj_j, mj_ldi, mj_lda, mj_sti, mj_sta, mj_b2, mj_get, mj_put, mj_iald, mj_iast, mj_zast, mj_aald, mj_aast, mj_alen, mj_newa, mj_anew, mj_new, mj_nx] at h
      (repeat' split at h) <;> cases h
theorem mj_st_ret {f : mj_F} {v : Option Value} (h : mj_st Θ k f = some (.inr (.inl v))) : (∃ x : Int32, decode (mj_cc Θ k) f.1 = .ok (.ireturn, 1) ∧ f.2.2.1 = [.int x] ∧ v = some (.int x) ∧ mj_fit (mj_rt Θ k) (.int x) = true) ∨ (∃ w : Value, decode (mj_cc Θ k) f.1 = .ok (.areturn, 1) ∧ f.2.2.1 = [w] ∧ v = some w ∧ mj_fit (mj_rt Θ k) w = true ∧ (w = .null ∨ ∃ a, w = .ref a)) ∨ (decode (mj_cc Θ k) f.1 = .ok (.return_, 1) ∧ f.2.2.1 = [] ∧ v = none ∧ mj_rt Θ k = none) := by
  obtain ⟨pc, L, st, σ⟩ := f
  unfold mj_st at h
  dsimp only at h ⊢
  cases hdg : decode (mj_cc Θ k) pc with
  | error x => rw [hdg] at h; cases h
  | ok q =>
    obtain ⟨i, len⟩ := q
    rw [hdg] at h
    dsimp only at h
    cases i with
    | ireturn =>
      simp only [mj_i] at h
      split at h
      · next hlen =>
        subst hlen
        split at h
        · next x =>
          split at h
          · next hf => cases h; exact Or.inl ⟨x, rfl, rfl, rfl, hf⟩
          · cases h
        · cases h
      · cases h
    | areturn =>
      simp only [mj_i] at h
      split at h
      · next hlen =>
        subst hlen
        split at h
        · next a =>
          split at h
          · next hf => cases h; exact Or.inr (Or.inl ⟨.ref a, rfl, rfl, rfl, hf, Or.inr ⟨a, rfl⟩⟩)
          · cases h
        · split at h
          · next hf => cases h; exact Or.inr (Or.inl ⟨.null, rfl, rfl, rfl, hf, Or.inl rfl⟩)
          · cases h
        · cases h
      · cases h
    | return_ =>
      simp only [mj_i] at h
      split at h
      · next hlen =>
        subst hlen
        split at h
        · split at h
          · next hf => cases h; exact Or.inr (Or.inr ⟨rfl, rfl, rfl, hf⟩)
          · cases h
        · cases h
      · cases h
    | _ =>
      exfalso
      simp only [mj_i, mj_j, mj_ldi, mj_lda, mj_sti, mj_sta, mj_b2, mj_get, mj_put, mj_iald, mj_iast, mj_zast, mj_aald, mj_aast, mj_alen, mj_newa, mj_anew, mj_new, mj_cpy, mj_mm, mj_call, mj_nx] at h
      (repeat' split at h) <;> cases h
theorem mj_X_le : ∀ (n : Nat) (k : Nat) (f : mj_F) (r : (Option Value ⊕ String) × mj_S), mj_X n Θ k f = some r → mj_le f.2.2.2 r.2
  | 0, _, _, _, h => by simp [mj_X] at h
  | n + 1, k, f, r, h => by
    simp only [mj_X] at h
    cases hs : mj_st Θ k f with
    | none => rw [hs] at h; cases h
    | some o =>
      rw [hs] at h
      rcases o with f' | v | E | ⟨y, as, g⟩
      · exact (mj_st_le hs).tr (mj_X_le n k f' r h)
      · cases h; exact mj_le.rf
      · cases h; exact mj_le.rf
      · dsimp only at h
        obtain ⟨-, -, -, -, -, -, hg⟩ := mj_st_call hs
        have hgs : g.2.2.2 = f.2.2.2 := by rw [hg]
        split at h
        · cases hc : mj_X n Θ y (mj_en Θ y as g.2.2.2) with
          | none => rw [hc] at h; cases h
          | some q =>
            rw [hc] at h
            have h1 := mj_X_le n y _ q hc
            simp only [mj_en, hgs] at h1
            rcases q with ⟨v | E, σ1⟩
            · exact h1.tr (mj_X_le n k _ r h)
            · dsimp only at h
              split at h
              · cases h; exact h1
              · cases h
        · cases h
end MJR
