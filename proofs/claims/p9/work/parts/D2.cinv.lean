/-! what holds of the class's cells: ranges, kind by kind -/
section DC
variable {ar : Nat → ClassId} {A A' : tg_T → Nat} {s s' s1 : cs_S} {σ τ : mj_S} {k i : Nat} {Q : (Option Value ⊕ String) → mj_S → Prop} {W O U hd L W1 W2 : List Nat} {x : Nat} {w : Nat → Int32}
def ct_c (N : Nat) (w : Nat → Int32) : Nat → Prop
  | 10 => ∃ lo en : Nat, w 2 = nI lo ∧ lo ≤ 100 ∧ w 3 = nI en ∧ en ≤ 100
  | 14 => ∃ K en : Nat, w 3 = nI K ∧ K ≤ 100 ∧ w 5 = nI en ∧ en ≤ 100
  | 18 => ∃ v g : Nat, w 1 = nI v ∧ v ≤ 25 ∧ w 2 = nI g ∧ g ≤ v
  | 26 => ∀ j, ∃ t : Nat, t ≤ 100 ∧ w j = nI t
  | 27 => ∃ en : Nat, w 3 = nI en ∧ en ≤ 100
  | 30 => ∃ a b t : Nat, w 0 = nI a ∧ a < N ∧ w 1 = nI b ∧ b < N ∧ w 4 = nI t ∧ t ≤ 100 ∧ (w 2 = 3 ∨ w 2 = 4 ∨ w 2 = 5 → t < 100)
  | 31 => ∃ en : Nat, w 3 = nI en ∧ en ≤ 100
  | _ => True
def ct_R (s : cs_S) : Prop := ∀ k i, ct_c (2 * s.1 - 1) (cs_v s k i) k
theorem R_cu (h : ct_R s) (hc : ct_c (2 * s.1 - 1) w k) : ct_R (cs_u s k i w) := by
  intro k' i'
  by_cases e : k' = k ∧ i' = i
  · obtain ⟨rfl, rfl⟩ := e
    rw [cs_u_eq]
    exact hc
  · rw [cs_u_ne e]
    exact h k' i'
def ct_I (ar : Nat → ClassId) (A : tg_T → Nat) (s : cs_S) (σ : mj_S) (W O U hd : List Nat) : Prop := tg_R A (cs_h ar A s) σ ∧ cs_B s ∧ ct_P s W O U hd ∧ ct_R s
/-- what stands behind a piece of work: layout, counts, who crashed, the messages of L -/
def ct_D (A : tg_T → Nat) (s : cs_S) (σ : mj_S) (A' : tg_T → Nat) (s' : cs_S) (τ : mj_S) (L : List Nat) : Prop := ct_F A s σ A' s' τ ∧ (∀ i, cs_v s' 9 i 1 = cs_v s 9 i 1) ∧ ∀ y ∈ L, cs_v s' 30 y = cs_v s 30 y
theorem D_rf : ct_D A s σ A s σ L := ⟨ct_F_rf, fun _ => rfl, fun _ _ => rfl⟩
theorem D_tr {A1 A2 : tg_T → Nat} {s2 : cs_S} {σ1 σ2 : mj_S} {L' : List Nat} (h : ct_D A s σ A1 s1 σ1 L) (h' : ct_D A1 s1 σ1 A2 s2 σ2 L') (hL : ∀ y, y ∈ L → y ∈ L') : ct_D A s σ A2 s2 σ2 L := ⟨ct_F_tr h.1 h'.1, fun i => (h'.2.1 i).trans (h.2.1 i), fun y hy => (h'.2.2 y (hL y hy)).trans (h.2.2 y hy)⟩
/-- a change that leaves messages, counts and who crashed -/
def ct_q (s s' : cs_S) : Prop := s'.1 = s.1 ∧ s'.2.1 = s.2.1 ∧ s'.2.2.1 = s.2.2.1 ∧ cs_r s' = cs_r s ∧ (∀ k i, k = 0 ∨ k = 3 ∨ k = 4 ∨ k = 6 ∨ k = 30 → cs_v s' k i = cs_v s k i) ∧ ∀ i, cs_v s' 9 i 1 = cs_v s 9 i 1
theorem q_rf : ct_q s s := ⟨rfl, rfl, rfl, rfl, fun _ _ _ => rfl, fun _ => rfl⟩
theorem q_tr {s2 : cs_S} (h : ct_q s s1) (h' : ct_q s1 s2) : ct_q s s2 := ⟨h'.1.trans h.1, h'.2.1.trans h.2.1, h'.2.2.1.trans h.2.2.1, h'.2.2.2.1.trans h.2.2.2.1, fun k i hk => (h'.2.2.2.2.1 k i hk).trans (h.2.2.2.2.1 k i hk), fun i => (h'.2.2.2.2.2 i).trans (h.2.2.2.2.2 i)⟩
theorem q_u (hk : ¬ (k = 0 ∨ k = 3 ∨ k = 4 ∨ k = 6 ∨ k = 30)) (h9 : k = 9 → w 1 = cs_v s 9 i 1) : ct_q s (cs_u s k i w) := by
  refine ⟨rfl, rfl, rfl, rfl, fun k' i' h => cs_u_ne (fun q => hk (by rw [← q.1]; exact h)), fun i' => ?_⟩
  by_cases e : 9 = k ∧ i' = i
  · obtain ⟨rfl, rfl⟩ := e
    rw [cs_u_eq]
    exact h9 rfl
  · rw [cs_u_ne e]
theorem B_q (h : cs_B s) (q : ct_q s s') : cs_B s' := by
  obtain ⟨b1, b2, b3, b4⟩ := h
  obtain ⟨q1, q2, q3, q4, q5, q6⟩ := q
  refine ⟨by omega, by omega, ?_, ?_⟩
  · rw [q5 0 0 (Or.inl rfl), q1]
    exact b3
  · rw [q5 0 0 (Or.inl rfl), q1]
    exact b4
theorem P_of (P : ct_P s W O U hd) (h2 : s'.2.1 = s.2.1) (h4 : cs_r s' = cs_r s) (h5 : ∀ k i, k = 3 ∨ k = 4 ∨ k = 6 ∨ k = 30 → cs_v s' k i = cs_v s k i) : ct_P s' W O U hd := by
  obtain ⟨hL, p4, p6, ⟨u1, u2⟩, nd, lt, c, pa, pb⟩ := P
  refine ⟨fun k j y hy => ?_, ct_Q_of (h5 4 0 (by omega)) (by rw [h4]) p4, ct_Q_of (h5 6 0 (by omega)) (by rw [h4]) p6, ⟨?_, ?_⟩, nd, ?_, ?_, fun y hy => ?_, fun y hy => ?_⟩
  · rw [h4] at hy
    rw [h2]
    exact hL k j y hy
  · rw [h5 3 0 (by omega)]
    exact u1
  · rw [h4]
    exact u2
  · rw [h2]
    exact lt
  · rw [h2]
    exact c
  · rw [h5 30 y (by omega)]
    exact pa y hy
  · rw [h5 30 y (by omega)]
    exact pb y hy
theorem I_q (I : ct_I ar A s σ W O U hd) (q : ct_q s s') (hR : ct_R s') (h : tg_R A (cs_h ar A s') τ) : ct_I ar A s' τ W O U hd := ⟨h, B_q I.2.1 q, P_of I.2.2.1 q.2.1 q.2.2.2.1 (fun k i hk => q.2.2.2.2.1 k i (Or.inr hk)), hR⟩
theorem D_q (q : ct_q s s') (hn : cs_n σ τ) : ct_D A s σ A s' τ L := ⟨ct_F_n q.1 q.2.1 q.2.2.1 hn, q.2.2.2.2.2, fun y _ => q.2.2.2.2.1 30 y (by omega)⟩
/-- all but the mail and the messages stays -/
def ct_S (s s' : cs_S) : Prop := ∀ k i, ¬ k = 3 → ¬ k = 4 → ¬ k = 6 → ¬ k = 30 → k < 31 → cs_v s' k i = cs_v s k i
theorem S_rf : ct_S s s := fun _ _ _ _ _ _ _ => rfl
theorem S_tr {s2 : cs_S} (h : ct_S s s1) (h' : ct_S s1 s2) : ct_S s s2 := fun k i a b c d e => (h' k i a b c d e).trans (h k i a b c d e)
/-- a message goes from a to b -/
theorem C_snd {a b t : Nat} {c d f : Int32} (I : ct_I ar A s σ W O U hd) (ha : a < 2 * s.1 - 1) (hb : b < 2 * s.1 - 1) (ht : t ≤ 100) (ht9 : c = 3 ∨ c = 4 ∨ c = 5 → t < 100) (hl : O.length + hd.length ≤ 300) (hQ : ∀ A' s' τ X O2 U' o, ct_I ar A' s' τ (W ++ X) (O ++ O2) U' hd → ct_D A s σ A' s' τ (W ++ O ++ hd) → ct_S s s' → (O2 = [] ∨ (a = b ∧ ∃ x, O2 = [x] ∧ cs_v s' 30 x = cs_six (nI a) (nI b) c d (nI t) f)) → (o = none ∨ ∃ x, o = some x ∧ x < s'.2.1 ∧ ¬ x ∈ W ++ O) → Q (.inl (some (cs_o A' o))) τ) : mj_wp (tb ar) 17 (mj_en (tb ar) 17 [.ref (A (3, 0)), .int (nI a), .int (nI b), .int c, .int d, .int (nI t), .int f] σ) Q := by
  obtain ⟨h, hB, P, hR⟩ := I
  have hB0 := hB
  obtain ⟨b1, b2, b3, b4⟩ := hB
  refine C_sendP (by omega) (by omega) h P hl (fun A' s' τ W' O' U' o h' P' F' hs hv km => ?_)
  have hB' : cs_B s' := by
    refine ⟨by rw [F'.2.2.1]; exact b1, by rw [F'.2.2.1]; exact b2, ?_, ?_⟩
    · rw [hv 0 0 (by decide) (by decide) (by decide) (by decide), F'.2.2.1]
      exact b3
    · rw [hv 0 0 (by decide) (by decide) (by decide) (by decide), F'.2.2.1]
      exact b4
  have hS : ct_S s s' := fun k i a b c d _ => hv k i a b c d
  have hD : ct_D A s σ A' s' τ (W ++ O ++ hd) := ⟨F', fun i => by rw [hv 9 i (by decide) (by decide) (by decide) (by decide)], km⟩
  have hR' : ct_R s' := by
    intro k i
    rw [F'.2.2.1]
    by_cases e30 : k = 30
    · subst e30
      rcases hs with ⟨-, -, -, e⟩ | ⟨x, -, -, ex, ey, -⟩
      · rw [e]
        exact hR 30 i
      · by_cases e : i = x
        · rw [e, ex]
          exact ⟨a, b, t, rfl, ha, rfl, hb, rfl, ht, ht9⟩
        · rw [ey i e]
          exact hR 30 i
    · by_cases e3 : k = 3
      · subst e3
        trivial
      · by_cases e4 : k = 4
        · subst e4
          trivial
        · by_cases e6 : k = 6
          · subst e6
            trivial
          · rw [hv k i e3 e4 e6 e30]
            exact hR k i
  rcases hs with ⟨rfl, rfl, rfl, -⟩ | ⟨x, rfl, hx, ex, -, hnx, ⟨e, rfl, rfl⟩ | ⟨-, rfl, rfl⟩⟩
  · exact hQ A' s' τ [] [] U' none ⟨h', hB', by rw [List.append_nil, List.append_nil]; exact P', hR'⟩ hD hS (Or.inl rfl) (Or.inl rfl)
  · exact hQ A' s' τ [] [x] U' (some x) ⟨h', hB', by rw [List.append_nil]; exact P', hR'⟩ hD hS (Or.inr ⟨e, x, rfl, ex⟩) (Or.inr ⟨x, rfl, hx, hnx⟩)
  · exact hQ A' s' τ [x] [] U' (some x) ⟨h', hB', by rw [List.append_nil]; exact P', hR'⟩ hD hS (Or.inl rfl) (Or.inr ⟨x, rfl, hx, hnx⟩)
theorem cb_one {f g : Nat → Bool} {x : Nat} (h0 : f x = false) (h1 : g x = true) (hne : ∀ i, ¬ i = x → g i = f i) : ∀ n : Nat, x < n → cb g n = cb f n + 1
  | 0, h => absurd h (Nat.not_lt_zero _)
  | n + 1, h => by
    show cb g n + (if g n = true then 1 else 0) = cb f n + (if f n = true then 1 else 0) + 1
    by_cases e : n = x
    · subst e
      rw [cb_cg (g := f) n (fun i hi => hne i (by omega)), h0, h1]
      rfl
    · rw [cb_one h0 h1 hne n (by omega), hne n e]
      omega
/-- a message's room for what is told -/
theorem C_rmP (I : ct_I ar A s σ W O U hd) (hx : x < s.2.1) (hQ : ∀ A' s' τ, ct_I ar A' s' τ W O U hd → ct_D A s σ A' s' τ L → ct_S s s' → cs_v s' 30 = cs_v s 30 → s'.2.1 = s.2.1 → s'.2.2.1 x = true → (∀ k j, ¬ j = x → A' (k, j) = A (k, j)) → (∀ j, s.2.2.1 j = true → s'.2.2.1 j = true) → Q (.inl (some (.ref (A' (31, x))))) τ) : mj_wp (tb ar) 24 (mj_en (tb ar) 24 [.ref (A (30, x))] σ) Q := by
  by_cases ht : s.2.2.1 x = true
  · exact (C_room1 I.1 hx ht).mpr (hQ A s σ I D_rf S_rf rfl rfl ht (fun _ _ _ => rfl) (fun _ h => h))
  · have ht' : s.2.2.1 x = false := by
      cases h : s.2.2.1 x
      · rfl
      · exact absurd h ht
    obtain ⟨h, hB, P, hR⟩ := I
    refine C_room0 h hx ht' (fun τ t1 t2 hτ => ?_)
    have vn : ∀ k i, ¬ (31 ≤ k ∧ k ≤ 33 ∧ i = x) → cs_v (cs_rm s x) k i = cs_v s k i := fun k i hk => if_neg hk
    have hcb : cb (cs_rm s x).2.2.1 (cs_rm s x).2.1 = cb s.2.2.1 s.2.1 + 1 := cb_one ht' (if_pos rfl) (fun i hi => if_neg hi) s.2.1 hx
    refine hQ _ _ τ ⟨hτ, ?_, P_of P rfl rfl (fun k i hk => vn k i (by omega)), fun k i => ?_⟩ ⟨⟨fun k i hk => A3_lt (by omega), fun y _ => A3_lt (by omega), rfl, Nat.le_refl _, ?_, ?_⟩, fun i => by rw [vn 9 i (by omega)], fun y _ => vn 30 y (by omega)⟩ (fun k i _ _ _ _ hk => vn k i (by omega)) (funext fun y => vn 30 y (by omega)) rfl (if_pos rfl) (fun k j hj => A3_i hj) (fun j hj => ?_)
    · obtain ⟨b1, b2, b3, b4⟩ := hB
      exact ⟨b1, b2, by rw [vn 0 0 (by omega)]; exact b3, by rw [vn 0 0 (by omega)]; exact b4⟩
    · by_cases e : 31 ≤ k ∧ k ≤ 33 ∧ i = x
      · obtain ⟨e1, e2, e3⟩ := e
        have hz : cs_v (cs_rm s x) k i = fun _ => 0 := if_pos ⟨e1, e2, e3⟩
        rw [hz]
        have hk : k = 31 ∨ k = 32 ∨ k = 33 := by omega
        rcases hk with rfl | rfl | rfl
        · exact ⟨0, rfl, by decide⟩
        · trivial
        · trivial
      · rw [vn k i e]
        exact hR k i
    · show τ.1 + (s.2.1 + 3 * cb s.2.2.1 s.2.1) = σ.1 + (s.2.1 + 3 * cb (cs_rm s x).2.2.1 (cs_rm s x).2.1)
      omega
    · show τ.2.1 + (7 * s.2.1 + 204 * cb s.2.2.1 s.2.1) = σ.2.1 + (7 * s.2.1 + 204 * cb (cs_rm s x).2.2.1 (cs_rm s x).2.1)
      omega
    · show (if j = x then true else s.2.2.1 j) = true
      split
      · rfl
      · exact hj
end DC
