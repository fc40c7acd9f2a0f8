section DB
variable {ar : Nat → ClassId} {A A' : tg_T → Nat} {s s' s1 : cs_S} {σ τ : mj_S} {k i : Nat} {Q : (Option Value ⊕ String) → mj_S → Prop} {W O U hd L W1 W2 : List Nat} {x : Nat}
theorem ct_Qt {h : Nat} (h2 : h < 300) (h4 : (W1 ++ x :: W2).length ≤ 300) (h5 : ∀ i y, (W1 ++ x :: W2)[i]? = some y → cs_r s (k + 1) ((h + i) % 300) = some y) : ct_Q (cs_take s k h (W1 ++ x :: W2).length W1.length) k (W1 ++ W2) := by
  have e : (W1 ++ x :: W2).length = (W1 ++ W2).length + 1 := by
    rw [List.length_append, List.length_append, List.length_cons]
    omega
  have hl : W1.length ≤ (W1 ++ W2).length := by
    rw [List.length_append]
    omega
  refine ⟨(h + 1) % 300, by rw [take_v, w_set_ne (by decide), w_set_at], Nat.mod_lt _ (by decide), ?_, by omega, fun j y hy => ?_⟩
  · rw [take_v, w_set_at, e, Nat.add_sub_cancel]
  · have hj : j < (W1 ++ W2).length := (List.getElem?_eq_some_iff.mp hy).1
    have ej : ((h + 1) % 300 + j) % 300 = (h + (j + 1)) % 300 := by omega
    rw [take_r, ej, va_up_ne _ _ (by omega), q_sh_at h W1.length _ (j + 1) (by omega) (by omega)]
    by_cases hi : j < W1.length
    · rw [if_pos (by omega)]
      refine h5 j y ?_
      rw [List.getElem?_append_left hi] at hy ⊢
      exact hy
    · rw [if_neg (by omega)]
      refine h5 (j + 1) y ?_
      rw [List.getElem?_append_right (by omega)] at hy ⊢
      rw [show j + 1 - W1.length = (j - W1.length) + 1 by omega, List.getElem?_cons_succ]
      exact hy
theorem tkW_perm : List.Perm (W1 ++ W2 ++ O ++ U ++ x :: hd) (W1 ++ x :: W2 ++ O ++ U ++ hd) := by
  have h1 : List.Perm (W1 ++ W2 ++ O ++ U ++ x :: hd) (x :: (W1 ++ W2 ++ O ++ U ++ hd)) := List.perm_middle
  have h2 : List.Perm (W1 ++ x :: (W2 ++ O ++ U ++ hd)) (x :: (W1 ++ (W2 ++ O ++ U ++ hd))) := List.perm_middle
  have e1 : W1 ++ x :: W2 ++ O ++ U ++ hd = W1 ++ x :: (W2 ++ O ++ U ++ hd) := by simp only [List.append_assoc, List.cons_append]
  have e2 : W1 ++ W2 ++ O ++ U ++ hd = W1 ++ (W2 ++ O ++ U ++ hd) := by simp only [List.append_assoc]
  rw [e1]
  rw [e2] at h1
  exact h1.trans h2.symm
theorem tkO_perm : List.Perm (W ++ O ++ U ++ x :: hd) (W ++ (x :: O) ++ U ++ hd) := by
  have h1 : List.Perm (W ++ O ++ U ++ x :: hd) (x :: (W ++ O ++ U ++ hd)) := List.perm_middle
  have h2 : List.Perm (W ++ x :: (O ++ U ++ hd)) (x :: (W ++ (O ++ U ++ hd))) := List.perm_middle
  have e1 : W ++ (x :: O) ++ U ++ hd = W ++ x :: (O ++ U ++ hd) := by simp only [List.append_assoc, List.cons_append]
  have e2 : W ++ O ++ U ++ hd = W ++ (O ++ U ++ hd) := by simp only [List.append_assoc]
  rw [e1]
  rw [e2] at h1
  exact h1.trans h2.symm
/-- one on the way is taken -/
theorem C_takeW (h : tg_R A (cs_h ar A s) σ) (P : ct_P s (W1 ++ x :: W2) O U hd) (hQ : ∀ τ s', cs_n σ τ → tg_R A (cs_h ar A s') τ → ct_P s' (W1 ++ W2) O U (x :: hd) → (s'.1 = s.1 ∧ s'.2.1 = s.2.1 ∧ s'.2.2.1 = s.2.2.1) → (∀ k i, ¬ k = 4 → cs_v s' k i = cs_v s k i) → Q (.inl (some (.ref (A (30, x))))) τ) : mj_wp (tb ar) 30 (mj_en (tb ar) 30 [.ref (A (4, 0)), .int (nI W1.length)] σ) Q := by
  obtain ⟨hL, ⟨h4, a1, a2, a3, a4, a5⟩, q6, ⟨u1, u2⟩, nd, lt, ⟨c1, c2⟩, pa, pb⟩ := P
  have e : (W1 ++ x :: W2).length = (W1 ++ W2).length + 1 := by
    rw [List.length_append, List.length_append, List.length_cons]
    omega
  have hl : W1.length ≤ (W1 ++ W2).length := by
    rw [List.length_append]
    omega
  have hx : cs_r s 5 ((h4 + W1.length) % 300) = some x := a5 _ _ (by rw [List.getElem?_append_right (Nat.le_refl _), Nat.sub_self]; rfl)
  have hin : ∀ y, y ∈ W1 ++ W2 → y ∈ W1 ++ x :: W2 := fun y hy => by
    rcases List.mem_append.mp hy with h | h
    · exact List.mem_append_left _ h
    · exact List.mem_append_right _ (List.mem_cons_of_mem _ h)
  refine C_take (k := 4) (hd := h4) (n := (W1 ++ x :: W2).length) (Or.inl rfl) h hL ⟨a1, a2, a3, a4, fun i hi => ⟨_, a5 i _ (List.getElem?_eq_getElem hi)⟩⟩ (by omega) hx (fun τ hn hτ => ?_)
  refine hQ τ _ hn hτ ⟨L_take hL, ct_Qt (k := 4) a2 a4 a5, ct_Q_of (take_vn (by omega)) (take_rn (by omega)) q6, ⟨by rw [take_vn (by omega)]; exact u1, by rw [take_rn (by omega)]; exact u2⟩, tkW_perm.nodup_iff.mpr nd, fun y hy => lt y (tkW_perm.mem_iff.mp hy), ⟨?_, c2⟩, fun y hy => by rw [take_vn (by omega)]; exact pa y (hin y hy), fun y hy => by rw [take_vn (by omega)]; exact pb y hy⟩ ⟨rfl, rfl, rfl⟩ (fun k i hk => take_vn (fun q => hk q.1))
  show (W1 ++ W2).length + O.length + U.length + (hd.length + 1) = s.2.1
  omega
/-- the first that was sent to itself is taken -/
theorem C_takeO (h : tg_R A (cs_h ar A s) σ) (P : ct_P s W (x :: O) U hd) (hQ : ∀ τ s', cs_n σ τ → tg_R A (cs_h ar A s') τ → ct_P s' W O U (x :: hd) → (s'.1 = s.1 ∧ s'.2.1 = s.2.1 ∧ s'.2.2.1 = s.2.2.1) → (∀ k i, ¬ k = 6 → cs_v s' k i = cs_v s k i) → Q (.inl (some (.ref (A (30, x))))) τ) : mj_wp (tb ar) 30 (mj_en (tb ar) 30 [.ref (A (6, 0)), .int 0] σ) Q := by
  obtain ⟨hL, q4, ⟨h6, b1, b2, b3, b4, b5⟩, ⟨u1, u2⟩, nd, lt, ⟨c1, c2⟩, pa, pb⟩ := P
  have hx : cs_r s 7 ((h6 + 0) % 300) = some x := b5 0 _ rfl
  have hc := C_take (ar := ar) (A := A) (s := s) (σ := σ) (Q := Q) (k := 6) (i := 0) (hd := h6) (n := (x :: O).length) (x := x) (Or.inr rfl) h hL ⟨b1, b2, b3, b4, fun i hi => ⟨_, b5 i _ (List.getElem?_eq_getElem hi)⟩⟩ (Nat.zero_lt_succ _) hx (fun τ hn hτ => ?_)
  · rw [nI_0] at hc
    exact hc
  · refine hQ τ _ hn hτ ⟨L_take hL, ct_Q_of (take_vn (by omega)) (take_rn (by omega)) q4, ct_Qt (k := 6) (W1 := []) (W2 := O) b2 b4 b5, ⟨by rw [take_vn (by omega)]; exact u1, by rw [take_rn (by omega)]; exact u2⟩, tkO_perm.nodup_iff.mpr nd, fun y hy => lt y (tkO_perm.mem_iff.mp hy), ⟨?_, c2⟩, fun y hy => by rw [take_vn (by omega)]; exact pa y hy, fun y hy => by rw [take_vn (by omega)]; exact pb y (List.mem_cons_of_mem _ hy)⟩ ⟨rfl, rfl, rfl⟩ (fun k i hk => take_vn (fun q => hk q.1))
    have c1' : W.length + (O.length + 1) + U.length + hd.length = s.2.1 := c1
    show W.length + O.length + U.length + (hd.length + 1) = s.2.1
    omega
/-- none was sent to itself -/
theorem C_takeN (h : tg_R A (cs_h ar A s) σ) (P : ct_P s W [] U hd) : mj_wp (tb ar) 30 (mj_en (tb ar) 30 [.ref (A (6, 0)), .int 0] σ) Q ↔ Q (.inl (some .null)) σ := by
  obtain ⟨hL, q4, ⟨h6, b1, b2, b3, b4, b5⟩, -⟩ := P
  have g := cs_gq (k := 6) (Or.inr rfl) h
  rw [b3] at g
  exact q_take_no g (Or.inr (by decide))
/-- one in hand is to be used again -/
theorem C_relP (h : tg_R A (cs_h ar A s) σ) (P : ct_P s W O U (x :: hd)) (hQ : ∀ τ s', cs_n σ τ → tg_R A (cs_h ar A s') τ → ct_P s' W O (U ++ [x]) hd → (s'.1 = s.1 ∧ s'.2.1 = s.2.1 ∧ s'.2.2.1 = s.2.2.1) → (∀ k i, ¬ k = 3 → cs_v s' k i = cs_v s k i) → Q (.inl none) τ) : mj_wp (tb ar) 19 (mj_en (tb ar) 19 [.ref (A (3, 0)), .ref (A (30, x))] σ) Q := by
  obtain ⟨hL, q4, q6, ⟨u1, u2⟩, nd, lt, ⟨c1, c2⟩, pa, pb⟩ := P
  have c1' : W.length + O.length + U.length + (hd.length + 1) = s.2.1 := c1
  have hx : x < s.2.1 := lt x (List.mem_append_right _ List.mem_cons_self)
  have e1 : W ++ O ++ (U ++ [x]) ++ hd = W ++ O ++ U ++ x :: hd := by simp only [List.append_assoc, List.cons_append, List.nil_append]
  refine C_rel (u := U.length) h hx u1 (by omega) (fun τ hn hτ => ?_)
  have vn : ∀ k i, ¬ k = 3 → cs_v (cs_rel s U.length x) k i = cs_v s k i := fun k i hk => by
    unfold cs_rel
    rw [cs_u_ne (fun q => hk q.1)]
    rfl
  refine hQ τ _ hn hτ ⟨?_, ct_Q_of (vn 4 0 (by decide)) rfl q4, ct_Q_of (vn 6 0 (by decide)) rfl q6, ⟨?_, fun j y hy => ?_⟩, by rw [e1]; exact nd, by rw [e1]; exact lt, ⟨?_, c2⟩, fun y hy => by rw [vn 30 y (by decide)]; exact pa y hy, fun y hy => by rw [vn 30 y (by decide)]; exact pb y hy⟩ ⟨rfl, rfl, rfl⟩ vn
  · intro k' j y hy
    by_cases hk : k' = 8
    · subst hk
      rw [show cs_r (cs_rel s U.length x) 8 = va_up (cs_r s 8) U.length (some x) from rfl] at hy
      unfold va_up at hy
      split at hy
      · cases hy
        exact hx
      · exact hL _ _ _ hy
    · rw [show cs_r (cs_rel s U.length x) k' = cs_r s k' from if_neg hk] at hy
      exact hL _ _ _ hy
  · unfold cs_rel
    rw [cs_u_eq, w_set_at, List.length_append]
    rfl
  · rw [show cs_r (cs_rel s U.length x) 8 = va_up (cs_r s 8) U.length (some x) from rfl]
    rcases ap_at hy with ⟨a, b⟩ | ⟨rfl, rfl⟩
    · rw [va_up_ne _ _ (by omega)]
      exact u2 j y b
    · exact va_up_self _ _ _
  · rw [List.length_append]
    show W.length + O.length + (U.length + 1) + hd.length = s.2.1
    omega
end DB
