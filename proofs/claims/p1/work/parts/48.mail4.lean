section CI
variable {ar : Nat → ClassId} {A A' : tg_T → Nat} {s s' : cs_S} {σ : mj_S} {e e0 : va_E} {w : Nat → Int32} {k i : Nat} {Q : (Option Value ⊕ String) → mj_S → Prop}
theorem cs_Q_of {hd n : Nat} (hv : cs_v s' k 0 = cs_v s k 0) (hr : cs_r s' (k + 1) = cs_r s (k + 1)) (h : cs_Q s k hd n) : cs_Q s' k hd n := by
  unfold cs_Q at h ⊢
  rw [hv, hr]
  exact h
theorem push_v {hd n x : Nat} : cs_v (cs_push s k hd n x) k 0 = upd (cs_v s k 0) 2 (nI (n + 1)) := cs_u_eq
theorem push_vn {hd n x k' i' : Nat} (h : ¬ (k' = k ∧ i' = 0)) : cs_v (cs_push s k hd n x) k' i' = cs_v s k' i' := cs_u_ne h
theorem push_r {hd n x : Nat} : cs_r (cs_push s k hd n x) (k + 1) = va_up (cs_r s (k + 1)) ((hd + n) % 300) (some x) := if_pos rfl
theorem push_rn {hd n x k' : Nat} (h : k' ≠ k + 1) : cs_r (cs_push s k hd n x) k' = cs_r s k' := if_neg h
theorem Q_push {hd n x : Nat} (h : cs_Q s k hd n) (hn : n < 300) : cs_Q (cs_push s k hd n x) k hd (n + 1) := by
  obtain ⟨q1, q2, q3, q4, q5⟩ := h
  refine ⟨by rw [push_v, w_set_ne (by decide), q1], q2, by rw [push_v, w_set_at], by omega, fun i hi => ?_⟩
  rw [push_r]
  by_cases hin : i = n
  · subst hin
    exact ⟨x, va_up_self _ _ _⟩
  · rw [va_up_ne _ _ (fun e => hin (p_inj (by omega) hn e))]
    exact q5 i (by omega)
theorem L_push {hd n x : Nat} (h : cs_L s) (hx : x < s.2.1) : cs_L (cs_push s k hd n x) := by
  intro k' j y hy
  by_cases hk : k' = k + 1
  · subst hk
    rw [push_r] at hy
    unfold va_up at hy
    split at hy
    · cases hy
      exact hx
    · exact h _ _ _ hy
  · rw [push_rn hk] at hy
    exact h _ _ _ hy
/-- a message more in a queue -/
theorem M_push {g x hd n : Nat} (hk : k = 4 ∨ k = 6) (hx : x < s.2.1) (hL : cs_L s) {h4 n4 h6 n6 u : Nat} (q4 : cs_Q s 4 h4 n4) (q6 : cs_Q s 6 h6 n6) (hq : cs_Q s k hd n) (hu : cs_v s 3 0 3 = nI u) (hun : ∀ j, j < u → ∃ x, cs_r s 8 j = some x) (hc : n4 + n6 + u + g + 1 = s.2.1) (hm : s.2.1 ≤ 601) (hn : n < 300) : cs_M (cs_push s k hd n x) g := by
  refine ⟨L_push hL hx, ?_⟩
  have h8 : cs_r (cs_push s k hd n x) 8 = cs_r s 8 := push_rn (by omega)
  have h3 : cs_v (cs_push s k hd n x) 3 0 = cs_v s 3 0 := push_vn (by omega)
  rcases hk with rfl | rfl
  · have e : n = n4 := by
      have a := cs_Nv hq.2.2.1 (by have := hq.2.2.2.1; omega)
      have b := cs_Nv q4.2.2.1 (by have := q4.2.2.2.1; omega)
      omega
    refine ⟨hd, n + 1, h6, n6, u, Q_push hq hn, cs_Q_of (push_vn (by omega)) (push_rn (by omega)) q6, by rw [h3]; exact hu, by rw [h8]; exact hun, ?_, hm⟩
    show _ = s.2.1
    omega
  · have e : n = n6 := by
      have a := cs_Nv hq.2.2.1 (by have := hq.2.2.2.1; omega)
      have b := cs_Nv q6.2.2.1 (by have := q6.2.2.2.1; omega)
      omega
    refine ⟨h4, n4, hd, n + 1, u, cs_Q_of (push_vn (by omega)) (push_rn (by omega)) q4, Q_push hq hn, by rw [h3]; exact hu, by rw [h8]; exact hun, ?_, hm⟩
    show _ = s.2.1
    omega
theorem M_send {g : Nat} {a b c d e f : Int32} (hM : cs_M s g) (hg : g ≤ 1) : cs_M (cs_send s a b c d e f).1 g := by
  obtain ⟨hd, n, hq⟩ := cs_Mq (a := a) (b := b) hM
  obtain ⟨hL, h4, n4, h6, n6, u, q4, q6, hu, hun, hc, hm⟩ := hM
  have N1 := cs_Nv hq.1 (by have := hq.2.1; omega)
  have N2 := cs_Nv hq.2.2.1 (by have := hq.2.2.2.1; omega)
  have N3 := cs_Nv hu (by omega)
  have hk := cs_kq_or (a := a) (b := b)
  unfold cs_send
  rw [N2]
  by_cases hf : 300 ≤ n
  · rw [if_pos hf]
    refine ⟨hL, h4, n4, h6, n6, u, cs_Q_of (cs_u_ne (by omega)) rfl q4, cs_Q_of (cs_u_ne (by omega)) rfl q6, ?_, hun, hc, hm⟩
    show cs_v (cs_u s 3 0 _) 3 0 3 = _
    rw [cs_u_eq, w_set_ne (by decide), hu]
  · rw [if_neg hf, N3, N1]
    have n4b := q4.2.2.2.1
    have n6b := q6.2.2.2.1
    have hnn : n = n4 ∨ n = n6 := by
      rcases hk with q | q
      · rw [q] at hq N2
        have b := cs_Nv q4.2.2.1 (by omega)
        omega
      · rw [q] at hq N2
        have b := cs_Nv q6.2.2.1 (by omega)
        omega
    cases u with
    | zero =>
      rw [if_pos rfl]
      have hv : ∀ k', k' ≠ 30 → cs_v (cs_mk s (cs_six a b c d e f)) k' 0 = cs_v s k' 0 := fun k' hk' => if_neg (fun q => hk' q.1)
      refine M_push (k := cs_kq a b) hk (Nat.lt_succ_self _) (fun k j x hx => Nat.lt_succ_of_lt (hL k j x hx)) (u := 0) (cs_Q_of (hv 4 (by decide)) rfl q4) (cs_Q_of (hv 6 (by decide)) rfl q6) (cs_Q_of (hv _ (by rcases hk with q | q <;> rw [q] <;> decide)) rfl hq) (by rw [hv 3 (by decide)]; exact hu) hun ?_ ?_ (by omega)
      · show _ = s.2.1 + 1
        omega
      · show s.2.1 + 1 ≤ 601
        omega
    | succ v =>
      obtain ⟨x, hx⟩ := hun v (by omega)
      rw [if_neg (by omega), Nat.add_sub_cancel, hx]
      have hv : ∀ k', k' = 4 ∨ k' = 6 → cs_v (cs_reuse s v x (cs_six a b c d e f)) k' 0 = cs_v s k' 0 := fun k' hk' => by
        unfold cs_reuse
        rw [cs_u_ne (by omega), cs_u_ne (by omega)]
      refine M_push (k := cs_kq a b) hk (hL 8 v x hx) hL (u := v) (cs_Q_of (hv 4 (by decide)) rfl q4) (cs_Q_of (hv 6 (by decide)) rfl q6) (cs_Q_of (hv _ hk) rfl hq) ?_ (fun j hj => hun j (by omega)) ?_ hm (by omega)
      · unfold cs_reuse
        rw [cs_u_ne (by omega), cs_u_eq, w_set_at]
      · show _ = s.2.1
        omega
end CI
