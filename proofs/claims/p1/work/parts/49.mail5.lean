section CJ
variable {ar : Nat → ClassId} {A A' : tg_T → Nat} {s s' : cs_S} {σ : mj_S} {e e0 : va_E} {w : Nat → Int32} {k i : Nat} {Q : (Option Value ⊕ String) → mj_S → Prop}
theorem cs_m_upo {r : Nat → Option Nat} {p : Nat} {o : Option Nat} : cs_m A (va_up r p o) = va_up (cs_m A r) p (o.map (fun k => A (30, k))) := by
  funext j
  unfold cs_m va_up
  split <;> rfl
theorem cs_m_sh {hd : Nat} : ∀ (i : Nat) (r : Nat → Option Nat), cs_m A (q_sh hd i r) = q_sh hd i (cs_m A r)
  | 0, _ => rfl
  | i + 1, r => by
    rw [q_sh, q_sh, cs_m_sh i, cs_m_upo]
    rfl
/-- message i is taken out of a queue -/
def cs_take (s : cs_S) (k hd n i : Nat) : cs_S := cs_u (cs_ur s (k + 1) (va_up (q_sh hd i (cs_r s (k + 1))) hd none)) k 0 (upd (upd (cs_v s k 0) 1 (nI ((hd + 1) % 300))) 2 (nI (n - 1)))
theorem take_v {hd n : Nat} : cs_v (cs_take s k hd n i) k 0 = upd (upd (cs_v s k 0) 1 (nI ((hd + 1) % 300))) 2 (nI (n - 1)) := cs_u_eq
theorem take_vn {hd n k' i' : Nat} (h : ¬ (k' = k ∧ i' = 0)) : cs_v (cs_take s k hd n i) k' i' = cs_v s k' i' := cs_u_ne h
theorem take_r {hd n : Nat} : cs_r (cs_take s k hd n i) (k + 1) = va_up (q_sh hd i (cs_r s (k + 1))) hd none := if_pos rfl
theorem take_rn {hd n k' : Nat} (h : k' ≠ k + 1) : cs_r (cs_take s k hd n i) k' = cs_r s k' := if_neg h
theorem C_take {hd n x : Nat} (hk : k = 4 ∨ k = 6) (h : tg_R A (cs_h ar A s) σ) (hL : cs_L s) (hq : cs_Q s k hd n) (hi : i < n) (hx : cs_r s (k + 1) ((hd + i) % 300) = some x) (hQ : ∀ τ, cs_n σ τ → tg_R A (cs_h ar A (cs_take s k hd n i)) τ → Q (.inl (some (.ref (A (30, x))))) τ) : mj_wp (tb ar) 30 (mj_en (tb ar) 30 [.ref (A (k, 0)), .int (nI i)] σ) Q := by
  obtain ⟨q1, q2, q3, q4, q5⟩ := hq
  have gq := cs_gq hk h
  have gr := cs_gr hk h
  rw [q1, q3] at gq
  have gx : cs_m A (cs_r s (k + 1)) ((hd + i) % 300) = some (A (30, x)) := by
    unfold cs_m
    rw [hx]
    rfl
  have hg : ∀ j v, cs_m A (cs_r s (k + 1)) j = some v → v ≠ A (k + 1, 0) ∧ ∃ fs, σ.2.2 v = some (.inr (4, fs)) := by
    intro j v hv
    unfold cs_m at hv
    cases hy : cs_r s (k + 1) j with
    | none => rw [hy] at hv; cases hv
    | some y =>
      rw [hy] at hv
      cases hv
      have g := cs_gm h (hL _ j y hy)
      exact ⟨ne_arr g gr, _, g⟩
  rw [q_take (ne_arr gq gr) gq gr q2 q4 hi gx hg]
  refine hQ _ ⟨rfl, rfl⟩ ?_
  unfold cs_take
  rcases hk with rfl | rfl
  · refine cs_set (e0 := _) (cs_setr (k := 5) h (by simp) rfl ?_) rfl ?_
    · show some (cs_rf ar 6 300 _) = _
      rw [cs_m_upo, cs_m_sh]
      rfl
    · show some (Sum.inr (6, [Value.ref (A (5, 0)), Value.int (upd (upd (cs_v s 4 0) 1 (nI ((hd + 1) % 300))) 2 (nI (n - 1)) 1), Value.int (upd (upd (cs_v s 4 0) 1 (nI ((hd + 1) % 300))) 2 (nI (n - 1)) 2)])) = _
      rw [w_set_at, w_set_ne (by decide), w_set_at]
  · refine cs_set (e0 := _) (cs_setr (k := 7) h (by simp) rfl ?_) rfl ?_
    · show some (cs_rf ar 6 300 _) = _
      rw [cs_m_upo, cs_m_sh]
      rfl
    · show some (Sum.inr (6, [Value.ref (A (7, 0)), Value.int (upd (upd (cs_v s 6 0) 1 (nI ((hd + 1) % 300))) 2 (nI (n - 1)) 1), Value.int (upd (upd (cs_v s 6 0) 1 (nI ((hd + 1) % 300))) 2 (nI (n - 1)) 2)])) = _
      rw [w_set_at, w_set_ne (by decide), w_set_at]
theorem Q_take {hd n : Nat} (h : cs_Q s k hd n) (hi : i < n) : cs_Q (cs_take s k hd n i) k ((hd + 1) % 300) (n - 1) := by
  obtain ⟨q1, q2, q3, q4, q5⟩ := h
  refine ⟨by rw [take_v, w_set_ne (by decide), w_set_at], Nat.mod_lt _ (by decide), by rw [take_v, w_set_at], by omega, fun j hj => ?_⟩
  rw [take_r]
  have e : ((hd + 1) % 300 + j) % 300 = (hd + (j + 1)) % 300 := by omega
  rw [e, va_up_ne _ _ (by omega), q_sh_at hd i _ (j + 1) (by omega) (by omega)]
  split
  · exact q5 _ (by omega)
  · exact q5 _ (by omega)
theorem L_take {hd n : Nat} (h : cs_L s) : cs_L (cs_take s k hd n i) := by
  intro k' j y hy
  by_cases hk : k' = k + 1
  · subst hk
    rw [take_r] at hy
    unfold va_up at hy
    split at hy
    · cases hy
    · exact q_sh_mem hd (P := fun y => y < s.2.1) i _ (fun j v hv => h _ j v hv) _ _ hy
  · rw [take_rn hk] at hy
    exact h _ _ _ hy
theorem M_take {g hd n : Nat} (hk : k = 4 ∨ k = 6) (hM : cs_M s g) (hq : cs_Q s k hd n) (hi : i < n) : cs_M (cs_take s k hd n i) (g + 1) := by
  obtain ⟨hL, h4, n4, h6, n6, u, q4, q6, hu, hun, hc, hm⟩ := hM
  refine ⟨L_take hL, ?_⟩
  have h8 : cs_r (cs_take s k hd n i) 8 = cs_r s 8 := take_rn (by omega)
  have h3 : cs_v (cs_take s k hd n i) 3 0 = cs_v s 3 0 := take_vn (by omega)
  have a := cs_Nv hq.2.2.1 (by have := hq.2.2.2.1; omega)
  rcases hk with rfl | rfl
  · have b := cs_Nv q4.2.2.1 (by have := q4.2.2.2.1; omega)
    refine ⟨_, n - 1, h6, n6, u, Q_take hq hi, cs_Q_of (take_vn (by omega)) (take_rn (by omega)) q6, by rw [h3]; exact hu, by rw [h8]; exact hun, ?_, hm⟩
    show _ = s.2.1
    omega
  · have b := cs_Nv q6.2.2.1 (by have := q6.2.2.2.1; omega)
    refine ⟨h4, n4, _, n - 1, u, cs_Q_of (take_vn (by omega)) (take_rn (by omega)) q4, Q_take hq hi, by rw [h3]; exact hu, by rw [h8]; exact hun, ?_, hm⟩
    show _ = s.2.1
    omega
/-- a message is to be used again -/
def cs_rel (s : cs_S) (u x : Nat) : cs_S := cs_u (cs_ur s 8 (va_up (cs_r s 8) u (some x))) 3 0 (upd (cs_v s 3 0) 3 (nI (u + 1)))
theorem C_rel {u x : Nat} (h : tg_R A (cs_h ar A s) σ) (hx : x < s.2.1) (hu : cs_v s 3 0 3 = nI u) (hu6 : u < 601) (hQ : ∀ τ, cs_n σ τ → tg_R A (cs_h ar A (cs_rel s u x)) τ → Q (.inl none) τ) : mj_wp (tb ar) 19 (mj_en (tb ar) 19 [.ref (A (3, 0)), .ref (A (30, x))] σ) Q := by
  have g3 := cs_g (k := 3) (i := 0) h rfl
  have g8 : σ.2.2 (A (8, 0)) = some (.inl (ar 6, 601, .inr (.inr (.inr (.inr (cs_m A (cs_r s 8))))))) := cs_g (k := 8) (i := 0) h rfl
  rw [hu] at g3
  rw [s_release g3 g8 hu6 (cs_gm h hx)]
  refine hQ _ ⟨rfl, rfl⟩ ?_
  unfold cs_rel
  refine cs_set (e0 := _) (cs_setr (k := 8) h (by simp) rfl ?_) rfl ?_
  · show some (cs_rf ar 6 601 _) = _
    rw [cs_m_up]
    rfl
  · show some (Sum.inr (2, [Value.ref (A (4, 0)), Value.ref (A (6, 0)), Value.ref (A (8, 0)), Value.int (upd (cs_v s 3 0) 3 (nI (u + 1)) 3), Value.int (upd (cs_v s 3 0) 3 (nI (u + 1)) 4)])) = _
    rw [w_set_at, w_set_ne (by decide)]
theorem M_rel {g u x : Nat} (hM : cs_M s (g + 1)) (hx : x < s.2.1) (hu : cs_v s 3 0 3 = nI u) (hu6 : u < 601) : cs_M (cs_rel s u x) g := by
  obtain ⟨hL, h4, n4, h6, n6, u', q4, q6, hu', hun, hc, hm⟩ := hM
  have a := cs_Nv hu (by omega)
  have b := cs_Nv hu' (by omega)
  have e : u = u' := by omega
  subst e
  refine ⟨?_, h4, n4, h6, n6, u + 1, cs_Q_of (s := s) (k := 4) (by unfold cs_rel; rw [cs_u_ne (by omega)]; rfl) rfl q4, cs_Q_of (s := s) (k := 6) (by unfold cs_rel; rw [cs_u_ne (by omega)]; rfl) rfl q6, ?_, ?_, ?_, hm⟩
  · intro k' j y hy
    by_cases hk : k' = 8
    · subst hk
      rw [show cs_r (cs_rel s u x) 8 = va_up (cs_r s 8) u (some x) from rfl] at hy
      unfold va_up at hy
      split at hy
      · cases hy
        exact hx
      · exact hL _ _ _ hy
    · rw [show cs_r (cs_rel s u x) k' = cs_r s k' from if_neg hk] at hy
      exact hL _ _ _ hy
  · unfold cs_rel
    rw [cs_u_eq, w_set_at]
  · intro j hj
    rw [show cs_r (cs_rel s u x) 8 = va_up (cs_r s 8) u (some x) from rfl]
    by_cases hju : j = u
    · subst hju
      exact ⟨x, va_up_self _ _ _⟩
    · rw [va_up_ne _ _ hju]
      exact hun j (by omega)
  · show _ = s.2.1
    omega
end CJ
