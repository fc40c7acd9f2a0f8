/-! the class's messages by lists: W on the way, O to itself, U to be used again, hd in hand -/
section DA
variable {ar : Nat → ClassId} {A A' : tg_T → Nat} {s s' s1 : cs_S} {σ τ : mj_S} {k i : Nat} {Q : (Option Value ⊕ String) → mj_S → Prop} {W O U hd L : List Nat}
/-- a queue holds the list L -/
def ct_Q (s : cs_S) (k : Nat) (L : List Nat) : Prop := ∃ h : Nat, cs_v s k 0 1 = nI h ∧ h < 300 ∧ cs_v s k 0 2 = nI L.length ∧ L.length ≤ 300 ∧ ∀ i x, L[i]? = some x → cs_r s (k + 1) ((h + i) % 300) = some x
def ct_U (s : cs_S) (U : List Nat) : Prop := cs_v s 3 0 3 = nI U.length ∧ ∀ j x, U[j]? = some x → cs_r s 8 j = some x
def ct_P (s : cs_S) (W O U hd : List Nat) : Prop := cs_L s ∧ ct_Q s 4 W ∧ ct_Q s 6 O ∧ ct_U s U ∧ (W ++ O ++ U ++ hd).Nodup ∧ (∀ x ∈ W ++ O ++ U ++ hd, x < s.2.1) ∧ (W.length + O.length + U.length + hd.length = s.2.1 ∧ s.2.1 ≤ 601) ∧ (∀ x ∈ W, ¬ cs_v s 30 x 0 = cs_v s 30 x 1) ∧ ∀ x ∈ O, cs_v s 30 x 0 = cs_v s 30 x 1
theorem ct_M (P : ct_P s W O U hd) : cs_M s hd.length := by
  obtain ⟨hL, ⟨h4, a1, a2, a3, a4, a5⟩, ⟨h6, b1, b2, b3, b4, b5⟩, ⟨u1, u2⟩, -, -, ⟨c1, c2⟩, -⟩ := P
  exact ⟨hL, h4, W.length, h6, O.length, U.length, ⟨a1, a2, a3, a4, fun i hi => ⟨W[i], a5 i _ (List.getElem?_eq_getElem hi)⟩⟩, ⟨b1, b2, b3, b4, fun i hi => ⟨O[i], b5 i _ (List.getElem?_eq_getElem hi)⟩⟩, u1, fun j hj => ⟨U[j], u2 j _ (List.getElem?_eq_getElem hj)⟩, c1, c2⟩
theorem ct_Q_of (hv : cs_v s' k 0 = cs_v s k 0) (hr : cs_r s' (k + 1) = cs_r s (k + 1)) (h : ct_Q s k L) : ct_Q s' k L := by
  unfold ct_Q at h ⊢
  rw [hv, hr]
  exact h
theorem ct_Qp {h x : Nat} (h1 : cs_v s k 0 1 = nI h) (h2 : h < 300) (h5 : ∀ i x, L[i]? = some x → cs_r s (k + 1) ((h + i) % 300) = some x) (hn : L.length < 300) : ct_Q (cs_push s k h L.length x) k (L ++ [x]) := by
  refine ⟨h, by rw [push_v, w_set_ne (by decide), h1], h2, ?_, ?_, fun i y hy => ?_⟩
  · rw [push_v, w_set_at, List.length_append]
    rfl
  · rw [List.length_append]
    show L.length + 1 ≤ 300
    omega
  · rw [push_r]
    rcases ap_at hy with ⟨a, b⟩ | ⟨rfl, rfl⟩
    · rw [va_up_ne _ _ (fun e => by have := p_inj (by omega) hn e; omega)]
      exact h5 i y b
    · exact va_up_self _ _ _
/-- what changes of the state when x is made or used again, and put into a queue -/
def ct_s1 (s s1 : cs_S) (x : Nat) (w : Nat → Int32) : Prop := s1.1 = s.1 ∧ cs_r s1 = cs_r s ∧ (∀ k i, ¬ (k = 3 ∧ i = 0) → ¬ (k = 30 ∧ i = x) → cs_v s1 k i = cs_v s k i) ∧ cs_v s1 30 x = w ∧ x < s1.2.1 ∧ cs_L s1
theorem ct_s1_mk {w : Nat → Int32} (hL : cs_L s) : ct_s1 s (cs_mk s w) s.2.1 w := ⟨rfl, rfl, fun k i _ h => if_neg h, if_pos ⟨rfl, rfl⟩, Nat.lt_succ_self _, fun k j x hx => Nat.lt_succ_of_lt (hL k j x hx)⟩
theorem ct_s1_re {u x : Nat} {w : Nat → Int32} (hL : cs_L s) (hx : x < s.2.1) : ct_s1 s (cs_reuse s u x w) x w := by
  refine ⟨rfl, rfl, fun k i h1 h2 => ?_, cs_u_eq, hx, hL⟩
  unfold cs_reuse
  rw [cs_u_ne h2, cs_u_ne h1]
theorem mem4 {a : Nat} : a ∈ W ++ O ++ U ++ hd ↔ a ∈ W ∨ a ∈ O ∨ a ∈ U ∨ a ∈ hd := by
  simp only [List.mem_append, or_assoc]
theorem mid_perm {x : Nat} {U' : List Nat} : List.Perm (W ++ [x] ++ O ++ U' ++ hd) (x :: (W ++ O ++ U' ++ hd)) := by
  have e1 : W ++ [x] ++ O ++ U' ++ hd = W ++ x :: (O ++ U' ++ hd) := by simp only [List.append_assoc, List.cons_append, List.nil_append]
  have e2 : W ++ O ++ U' ++ hd = W ++ (O ++ U' ++ hd) := by simp only [List.append_assoc]
  rw [e1, e2]
  exact List.perm_middle
theorem mid_permO {x : Nat} {U' : List Nat} : List.Perm (W ++ (O ++ [x]) ++ U' ++ hd) (x :: (W ++ O ++ U' ++ hd)) := by
  have e1 : W ++ (O ++ [x]) ++ U' ++ hd = (W ++ O) ++ x :: (U' ++ hd) := by simp only [List.append_assoc, List.cons_append, List.nil_append]
  have e2 : W ++ O ++ U' ++ hd = (W ++ O) ++ (U' ++ hd) := by simp only [List.append_assoc]
  rw [e1, e2]
  exact List.perm_middle
theorem ct_pushW {x h4 : Nat} {w : Nat → Int32} {U' : List Nat} (hs : ct_s1 s s1 x w) (P : ct_P s W O U hd) (h1 : cs_v s 4 0 1 = nI h4) (h2 : h4 < 300) (h5 : ∀ i x, W[i]? = some x → cs_r s 5 ((h4 + i) % 300) = some x) (hW : W.length < 300) (hU : cs_v s1 3 0 3 = nI U'.length) (hU2 : ∀ j x, U'[j]? = some x → cs_r s 8 j = some x) (hn : ¬ x ∈ W ++ O ++ U' ++ hd) (hsub : ∀ y, y ∈ U' → y ∈ U) (hnd : (W ++ O ++ U' ++ hd).Nodup) (hlt : ∀ y, y ∈ W ++ O ++ U' ++ hd → y < s1.2.1) (hc : W.length + O.length + U'.length + hd.length + 1 = s1.2.1) (hm : s1.2.1 ≤ 601) (hw : ¬ w 0 = w 1) : ct_P (cs_push s1 4 h4 W.length x) (W ++ [x]) O U' hd := by
  obtain ⟨hL, q4, q6, -, -, -, -, pa, pb⟩ := P
  obtain ⟨s11, sr, sv, sx, sxl, sL⟩ := hs
  have v4 : cs_v s1 4 0 = cs_v s 4 0 := sv 4 0 (by omega) (by omega)
  have v6 : cs_v s1 6 0 = cs_v s 6 0 := sv 6 0 (by omega) (by omega)
  refine ⟨L_push sL sxl, ct_Qp (k := 4) (by rw [v4]; exact h1) h2 (by rw [sr]; exact h5) hW, ct_Q_of (push_vn (by omega)) (push_rn (by omega)) (ct_Q_of v6 (by rw [sr]) q6), ⟨?_, ?_⟩, mid_perm.nodup_iff.mpr (List.nodup_cons.mpr ⟨hn, hnd⟩), fun y hy => ?_, ⟨?_, hm⟩, fun y hy => ?_, fun y hy => ?_⟩
  · rw [push_vn (by omega)]
    exact hU
  · rw [push_rn (by omega), sr]
    exact hU2
  · rcases List.mem_cons.mp (mid_perm.mem_iff.mp hy) with h | h
    · rw [h]
      exact sxl
    · exact hlt y h
  · rw [List.length_append]
    show W.length + 1 + O.length + U'.length + hd.length = s1.2.1
    omega
  · rw [push_vn (by omega)]
    rcases List.mem_append.mp hy with h | h
    · have hne : ¬ y = x := fun e => hn (e ▸ mem4.mpr (Or.inl h))
      rw [sv 30 y (by omega) (fun q => hne q.2)]
      exact pa y h
    · rw [List.mem_singleton.mp h, sx]
      exact hw
  · have hne : ¬ y = x := fun e => hn (e ▸ mem4.mpr (Or.inr (Or.inl hy)))
    rw [push_vn (by omega), sv 30 y (by omega) (fun q => hne q.2)]
    exact pb y hy
theorem ct_pushO {x h6 : Nat} {w : Nat → Int32} {U' : List Nat} (hs : ct_s1 s s1 x w) (P : ct_P s W O U hd) (h1 : cs_v s 6 0 1 = nI h6) (h2 : h6 < 300) (h5 : ∀ i x, O[i]? = some x → cs_r s 7 ((h6 + i) % 300) = some x) (hO : O.length < 300) (hU : cs_v s1 3 0 3 = nI U'.length) (hU2 : ∀ j x, U'[j]? = some x → cs_r s 8 j = some x) (hn : ¬ x ∈ W ++ O ++ U' ++ hd) (hsub : ∀ y, y ∈ U' → y ∈ U) (hnd : (W ++ O ++ U' ++ hd).Nodup) (hlt : ∀ y, y ∈ W ++ O ++ U' ++ hd → y < s1.2.1) (hc : W.length + O.length + U'.length + hd.length + 1 = s1.2.1) (hm : s1.2.1 ≤ 601) (hw : w 0 = w 1) : ct_P (cs_push s1 6 h6 O.length x) W (O ++ [x]) U' hd := by
  obtain ⟨hL, q4, q6, -, -, -, -, pa, pb⟩ := P
  obtain ⟨s11, sr, sv, sx, sxl, sL⟩ := hs
  have v4 : cs_v s1 4 0 = cs_v s 4 0 := sv 4 0 (by omega) (by omega)
  have v6 : cs_v s1 6 0 = cs_v s 6 0 := sv 6 0 (by omega) (by omega)
  refine ⟨L_push sL sxl, ct_Q_of (push_vn (by omega)) (push_rn (by omega)) (ct_Q_of v4 (by rw [sr]) q4), ct_Qp (k := 6) (by rw [v6]; exact h1) h2 (by rw [sr]; exact h5) hO, ⟨?_, ?_⟩, mid_permO.nodup_iff.mpr (List.nodup_cons.mpr ⟨hn, hnd⟩), fun y hy => ?_, ⟨?_, hm⟩, fun y hy => ?_, fun y hy => ?_⟩
  · rw [push_vn (by omega)]
    exact hU
  · rw [push_rn (by omega), sr]
    exact hU2
  · rcases List.mem_cons.mp (mid_permO.mem_iff.mp hy) with h | h
    · rw [h]
      exact sxl
    · exact hlt y h
  · rw [List.length_append]
    show W.length + (O.length + 1) + U'.length + hd.length = s1.2.1
    omega
  · have hne : ¬ y = x := fun e => hn (e ▸ mem4.mpr (Or.inl hy))
    rw [push_vn (by omega), sv 30 y (by omega) (fun q => hne q.2)]
    exact pa y hy
  · rw [push_vn (by omega)]
    rcases List.mem_append.mp hy with h | h
    · have hne : ¬ y = x := fun e => hn (e ▸ mem4.mpr (Or.inr (Or.inl h)))
      rw [sv 30 y (by omega) (fun q => hne q.2)]
      exact pb y h
    · rw [List.mem_singleton.mp h, sx]
      exact hw
/-- how many of the messages have a Row -/
def cb (f : Nat → Bool) : Nat → Nat
  | 0 => 0
  | n + 1 => cb f n + (if f n = true then 1 else 0)
theorem cb_cg {f g : Nat → Bool} : ∀ n : Nat, (∀ i, i < n → f i = g i) → cb f n = cb g n
  | 0, _ => rfl
  | n + 1, h => by
    show cb f n + _ = cb g n + _
    rw [cb_cg n (fun i hi => h i (by omega)), h n (Nat.lt_succ_self _)]
theorem cb_le {f : Nat → Bool} : ∀ n : Nat, cb f n ≤ n
  | 0 => Nat.le_refl _
  | n + 1 => by
    have h := cb_le (f := f) n
    show cb f n + (if f n = true then 1 else 0) ≤ n + 1
    split <;> omega
/-- cells and slots made for messages -/
def ct_1 (s : cs_S) : Nat := s.2.1 + 3 * cb s.2.2.1 s.2.1
def ct_2 (s : cs_S) : Nat := 7 * s.2.1 + 204 * cb s.2.2.1 s.2.1
theorem ct_le (h : s.2.1 ≤ 601) : ct_1 s ≤ 2404 ∧ ct_2 s ≤ 126811 := by
  have := cb_le (f := s.2.2.1) s.2.1
  unfold ct_1 ct_2
  omega
theorem cb_mk {w : Nat → Int32} : cb (cs_mk s w).2.2.1 (cs_mk s w).2.1 = cb s.2.2.1 s.2.1 := by
  show cb (fun i => if i = s.2.1 then false else s.2.2.1 i) s.2.1 + (if (if s.2.1 = s.2.1 then false else s.2.2.1 s.2.1) = true then 1 else 0) = _
  rw [if_pos rfl, cb_cg (g := s.2.2.1) s.2.1 (fun i hi => if_neg (by omega))]
  rfl
/-- what a send comes to -/
def ct_sent (s s' : cs_S) (W O W' O' : List Nat) (a b : Nat) (w : Nat → Int32) (o : Option Nat) : Prop := (o = none ∧ W' = W ∧ O' = O ∧ cs_v s' 30 = cs_v s 30) ∨ ∃ x, o = some x ∧ x < s'.2.1 ∧ cs_v s' 30 x = w ∧ (∀ y, ¬ y = x → cs_v s' 30 y = cs_v s 30 y) ∧ (¬ x ∈ W ++ O) ∧ ((a = b ∧ W' = W ∧ O' = O ++ [x]) ∨ (¬ a = b ∧ W' = W ++ [x] ∧ O' = O))
/-- layout and store behind it -/
def ct_F (A : tg_T → Nat) (s : cs_S) (σ : mj_S) (A' : tg_T → Nat) (s' : cs_S) (τ : mj_S) : Prop := (∀ k i, k < 30 → A' (k, i) = A (k, i)) ∧ (∀ x, x < s.2.1 → A' (30, x) = A (30, x)) ∧ s'.1 = s.1 ∧ s.2.1 ≤ s'.2.1 ∧ (τ.1 + ct_1 s = σ.1 + ct_1 s' ∧ τ.2.1 + ct_2 s = σ.2.1 + ct_2 s')
theorem ct_F_rf : ct_F A s σ A s σ := ⟨fun _ _ _ => rfl, fun _ _ => rfl, rfl, Nat.le_refl _, rfl, rfl⟩
theorem ct_F_tr {A1 A2 : tg_T → Nat} {s2 : cs_S} {σ1 σ2 : mj_S} (h : ct_F A s σ A1 s1 σ1) (h' : ct_F A1 s1 σ1 A2 s2 σ2) : ct_F A s σ A2 s2 σ2 := by
  obtain ⟨a1, a2, a3, a4, a5, a6⟩ := h
  obtain ⟨b1, b2, b3, b4, b5, b6⟩ := h'
  exact ⟨fun k i hk => (b1 k i hk).trans (a1 k i hk), fun x hx => (b2 x (by omega)).trans (a2 x hx), b3.trans a3, by omega, by omega, by omega⟩
/-- no cell is made, the counts stand -/
theorem ct_F_n (h1 : s'.1 = s.1) (h2 : s'.2.1 = s.2.1) (h3 : s'.2.2.1 = s.2.2.1) (hn : cs_n σ τ) : ct_F A s σ A s' τ := by
  refine ⟨fun _ _ _ => rfl, fun _ _ => rfl, h1, by omega, ?_, ?_⟩
  · unfold ct_1
    rw [h2, h3, hn.1]
  · unfold ct_2
    rw [h2, h3, hn.2]
theorem C_sendP {a b : Nat} {c d e f : Int32} (ha : a < 2 ^ 30) (hb : b < 2 ^ 30) (h : tg_R A (cs_h ar A s) σ) (P : ct_P s W O U hd) (hl : O.length + hd.length ≤ 300) (hQ : ∀ A' s' τ W' O' U' o, tg_R A' (cs_h ar A' s') τ → ct_P s' W' O' U' hd → ct_F A s σ A' s' τ → ct_sent s s' W O W' O' a b (cs_six (nI a) (nI b) c d e f) o → (∀ k i, ¬ k = 3 → ¬ k = 4 → ¬ k = 6 → ¬ k = 30 → cs_v s' k i = cs_v s k i) → (∀ y ∈ W ++ O ++ hd, cs_v s' 30 y = cs_v s 30 y) → Q (.inl (some (cs_o A' o))) τ) : mj_wp (tb ar) 17 (mj_en (tb ar) 17 [.ref (A (3, 0)), .int (nI a), .int (nI b), .int c, .int d, .int e, .int f] σ) Q := by
  have hM := ct_M P
  have P0 := P
  obtain ⟨hL, ⟨h4, a1, a2, a3, a4, a5⟩, ⟨h6, b1, b2, b3, b4, b5⟩, ⟨u1, u2⟩, nd, lt, ⟨c1, c2⟩, pa, pb⟩ := P
  have hUl : U.length ≤ 601 := by omega
  refine C_send h hM (fun A' τ hA' t1 t2 hτ => ?_)
  have hX1 : ∀ k i, k < 30 → A' (k, i) = A (k, i) := fun k i hk => hA' _ (fun e => by have := congrArg Prod.fst e; dsimp only at this; omega)
  have hX2 : ∀ x, x < s.2.1 → A' (30, x) = A (30, x) := fun x hx => hA' _ (fun e => by have := congrArg Prod.snd e; dsimp only at this; omega)
  have N3 : cs_N s 3 3 = U.length := cs_Nv u1 (by omega)
  have hkq : cs_kq (nI a) (nI b) = if a = b then 6 else 4 := by
    unfold cs_kq
    by_cases e : a = b
    · rw [if_pos e, if_pos (by rw [e])]
    · rw [if_neg e, if_neg (fun q => e ((nI_eq (by omega) (by omega)).mp q))]
  -- the queue
  by_cases hab : a = b
  · rw [if_pos hab] at hkq
    have N2 : cs_N s (cs_kq (nI a) (nI b)) 2 = O.length := by rw [hkq]; exact cs_Nv b3 (by omega)
    have N1 : cs_N s (cs_kq (nI a) (nI b)) 1 = h6 := by rw [hkq]; exact cs_Nv b1 (by omega)
    by_cases hf : 300 ≤ O.length
    · have es : cs_send s (nI a) (nI b) c d e f = (cs_u s 3 0 (upd (cs_v s 3 0) 4 (cs_v s 3 0 4 + 1)), none) := by
        unfold cs_send
        rw [N2, if_pos hf]
      rw [es] at hτ t1 t2 ⊢
      have hh : hd.length = 0 := by omega
      refine hQ A' _ τ W O U none hτ ⟨hL, ct_Q_of (cs_u_ne (by omega)) rfl ⟨h4, a1, a2, a3, a4, a5⟩, ct_Q_of (cs_u_ne (by omega)) rfl ⟨h6, b1, b2, b3, b4, b5⟩, ⟨by rw [cs_u_eq, w_set_ne (by decide)]; exact u1, u2⟩, nd, lt, ⟨c1, c2⟩, fun x hx => by rw [cs_u_ne (by omega)]; exact pa x hx, fun x hx => by rw [cs_u_ne (by omega)]; exact pb x hx⟩ ⟨hX1, hX2, rfl, Nat.le_refl _, ?_, ?_⟩ (Or.inl ⟨rfl, rfl, rfl, ?_⟩) (fun k i k3 _ _ _ => cs_u_ne (fun q => k3 q.1)) (fun y _ => cs_u_ne (by omega))
      · have t : τ.1 + s.2.1 = σ.1 + s.2.1 := t1
        show τ.1 + ct_1 s = σ.1 + ct_1 s
        omega
      · have t : τ.2.1 + 7 * s.2.1 = σ.2.1 + 7 * s.2.1 := t2
        show τ.2.1 + ct_2 s = σ.2.1 + ct_2 s
        omega
      · funext y
        exact cs_u_ne (by omega)
    · rcases List.eq_nil_or_concat U with hU | ⟨U', x, hU⟩
      · subst hU
        have es : cs_send s (nI a) (nI b) c d e f = (cs_push (cs_mk s (cs_six (nI a) (nI b) c d e f)) 6 h6 O.length s.2.1, some s.2.1) := by
          unfold cs_send
          rw [N2, if_neg hf, N3, if_pos (show ([] : List Nat).length = 0 from rfl), N1, hkq]
        rw [es] at hτ t1 t2 ⊢
        have hn : ¬ s.2.1 ∈ W ++ O ++ [] ++ hd := fun q => Nat.lt_irrefl _ (lt _ q)
        refine hQ A' _ τ W (O ++ [s.2.1]) [] _ hτ (ct_pushO (ct_s1_mk hL) P0 b1 b2 b5 (by omega) (by rw [mk_v (by omega)]; exact u1) u2 hn (fun y h => h) nd (fun y hy => Nat.lt_succ_of_lt (lt y hy)) ?_ ?_ (by rw [hab]; rfl)) ⟨hX1, hX2, rfl, Nat.le_succ _, ?_, ?_⟩ (Or.inr ⟨_, rfl, Nat.lt_succ_self _, ?_, fun y hy => ?_, fun q => hn (List.mem_append_left _ (List.mem_append_left _ q)), Or.inl ⟨hab, rfl, rfl⟩⟩) (fun k i k3 k4 k6 k30 => ?_) (fun y hy => ?_)
        · show _ = s.2.1 + 1
          omega
        · show s.2.1 + 1 ≤ 601
          have : ([] : List Nat).length = 0 := rfl
          omega
        · have t : τ.1 + s.2.1 = σ.1 + (s.2.1 + 1) := t1
          have eb := cb_mk (s := s) (w := cs_six (nI a) (nI b) c d e f)
          show τ.1 + (s.2.1 + 3 * cb s.2.2.1 s.2.1) = σ.1 + (s.2.1 + 1 + 3 * cb (cs_mk s (cs_six (nI a) (nI b) c d e f)).2.2.1 (cs_mk s (cs_six (nI a) (nI b) c d e f)).2.1)
          omega
        · have t : τ.2.1 + 7 * s.2.1 = σ.2.1 + 7 * (s.2.1 + 1) := t2
          have eb := cb_mk (s := s) (w := cs_six (nI a) (nI b) c d e f)
          show τ.2.1 + (7 * s.2.1 + 204 * cb s.2.2.1 s.2.1) = σ.2.1 + (7 * (s.2.1 + 1) + 204 * cb (cs_mk s (cs_six (nI a) (nI b) c d e f)).2.2.1 (cs_mk s (cs_six (nI a) (nI b) c d e f)).2.1)
          omega
        · rw [push_vn (by omega)]
          exact mk_vm
        · rw [push_vn (by omega)]
          exact mk_v (fun q => hy q.2)
        · rw [push_vn (fun q => k6 q.1), mk_v (fun q => k30 q.1)]
        · rw [push_vn (by omega)]
          refine mk_v (fun q => hn ?_)
          rw [← q.2]
          rcases List.mem_append.mp hy with h | h
          · exact List.mem_append_left _ (List.mem_append_left _ h)
          · exact List.mem_append_right _ h
      · rw [List.concat_eq_append] at hU
        subst hU
        have hlen : (U' ++ [x]).length = U'.length + 1 := by rw [List.length_append]; rfl
        have hx8 : cs_r s 8 U'.length = some x := u2 _ _ (by rw [List.getElem?_append_right (Nat.le_refl _), Nat.sub_self]; rfl)
        have hxm := hL 8 _ _ hx8
        have es : cs_send s (nI a) (nI b) c d e f = (cs_push (cs_reuse s U'.length x (cs_six (nI a) (nI b) c d e f)) 6 h6 O.length x, some x) := by
          unfold cs_send
          rw [N2, if_neg hf, N3, if_neg (by omega), hlen, Nat.add_sub_cancel, hx8, N1, hkq]
        rw [es] at hτ t1 t2 ⊢
        have hpm : List.Perm (W ++ O ++ (U' ++ [x]) ++ hd) (x :: (W ++ O ++ U' ++ hd)) := by
          have e1 : W ++ O ++ (U' ++ [x]) ++ hd = (W ++ O ++ U') ++ x :: hd := by simp only [List.append_assoc, List.cons_append, List.nil_append]
          rw [e1]
          exact List.perm_middle
        obtain ⟨hn, hnd⟩ := List.nodup_cons.mp (hpm.nodup_iff.mp nd)
        have hlt : ∀ y, y ∈ W ++ O ++ U' ++ hd → y < s.2.1 := fun y hy => lt y (hpm.mem_iff.mpr (List.mem_cons_of_mem _ hy))
        refine hQ A' _ τ W (O ++ [x]) U' _ hτ (ct_pushO (ct_s1_re hL hxm) P0 b1 b2 b5 (by omega) ?_ (fun j y hy => u2 j y ?_) hn (fun y h => List.mem_append_left _ h) hnd hlt ?_ c2 (by rw [hab]; rfl)) ⟨hX1, hX2, rfl, Nat.le_refl _, ?_, ?_⟩ (Or.inr ⟨x, rfl, hxm, ?_, fun y hy => ?_, fun q => hn (List.mem_append_left _ (List.mem_append_left _ q)), Or.inl ⟨hab, rfl, rfl⟩⟩) (fun k i k3 k4 k6 k30 => ?_) (fun y hy => ?_)
        · unfold cs_reuse
          rw [cs_u_ne (by omega), cs_u_eq, w_set_at]
        · have hj : j < U'.length := (List.getElem?_eq_some_iff.mp hy).1
          rw [List.getElem?_append_left hj]
          exact hy
        · show _ = s.2.1
          omega
        · have t : τ.1 + s.2.1 = σ.1 + s.2.1 := t1
          show τ.1 + ct_1 s = σ.1 + ct_1 s
          omega
        · have t : τ.2.1 + 7 * s.2.1 = σ.2.1 + 7 * s.2.1 := t2
          show τ.2.1 + ct_2 s = σ.2.1 + ct_2 s
          omega
        · rw [push_vn (by omega)]
          exact cs_u_eq
        · rw [push_vn (by omega)]
          unfold cs_reuse
          rw [cs_u_ne (fun q => hy q.2), cs_u_ne (by omega)]
        · rw [push_vn (fun q => k6 q.1)]
          unfold cs_reuse
          rw [cs_u_ne (fun q => k30 q.1), cs_u_ne (fun q => k3 q.1)]
        · rw [push_vn (by omega)]
          unfold cs_reuse
          rw [cs_u_ne (fun q => hn (by
            rw [← q.2]
            rcases List.mem_append.mp hy with h | h
            · exact List.mem_append_left _ (List.mem_append_left _ h)
            · exact List.mem_append_right _ h)), cs_u_ne (by omega)]
  · rw [if_neg hab] at hkq
    have hne : ¬ nI a = nI b := fun q => hab ((nI_eq (by omega) (by omega)).mp q)
    have N2 : cs_N s (cs_kq (nI a) (nI b)) 2 = W.length := by rw [hkq]; exact cs_Nv a3 (by omega)
    have N1 : cs_N s (cs_kq (nI a) (nI b)) 1 = h4 := by rw [hkq]; exact cs_Nv a1 (by omega)
    by_cases hf : 300 ≤ W.length
    · have es : cs_send s (nI a) (nI b) c d e f = (cs_u s 3 0 (upd (cs_v s 3 0) 4 (cs_v s 3 0 4 + 1)), none) := by
        unfold cs_send
        rw [N2, if_pos hf]
      rw [es] at hτ t1 t2 ⊢
      refine hQ A' _ τ W O U none hτ ⟨hL, ct_Q_of (cs_u_ne (by omega)) rfl ⟨h4, a1, a2, a3, a4, a5⟩, ct_Q_of (cs_u_ne (by omega)) rfl ⟨h6, b1, b2, b3, b4, b5⟩, ⟨by rw [cs_u_eq, w_set_ne (by decide)]; exact u1, u2⟩, nd, lt, ⟨c1, c2⟩, fun x hx => by rw [cs_u_ne (by omega)]; exact pa x hx, fun x hx => by rw [cs_u_ne (by omega)]; exact pb x hx⟩ ⟨hX1, hX2, rfl, Nat.le_refl _, ?_, ?_⟩ (Or.inl ⟨rfl, rfl, rfl, ?_⟩) (fun k i k3 _ _ _ => cs_u_ne (fun q => k3 q.1)) (fun y _ => cs_u_ne (by omega))
      · have t : τ.1 + s.2.1 = σ.1 + s.2.1 := t1
        show τ.1 + ct_1 s = σ.1 + ct_1 s
        omega
      · have t : τ.2.1 + 7 * s.2.1 = σ.2.1 + 7 * s.2.1 := t2
        show τ.2.1 + ct_2 s = σ.2.1 + ct_2 s
        omega
      · funext y
        exact cs_u_ne (by omega)
    · rcases List.eq_nil_or_concat U with hU | ⟨U', x, hU⟩
      · subst hU
        have es : cs_send s (nI a) (nI b) c d e f = (cs_push (cs_mk s (cs_six (nI a) (nI b) c d e f)) 4 h4 W.length s.2.1, some s.2.1) := by
          unfold cs_send
          rw [N2, if_neg hf, N3, if_pos (show ([] : List Nat).length = 0 from rfl), N1, hkq]
        rw [es] at hτ t1 t2 ⊢
        have hn : ¬ s.2.1 ∈ W ++ O ++ [] ++ hd := fun q => Nat.lt_irrefl _ (lt _ q)
        refine hQ A' _ τ (W ++ [s.2.1]) O [] _ hτ (ct_pushW (ct_s1_mk hL) P0 a1 a2 a5 (by omega) (by rw [mk_v (by omega)]; exact u1) u2 hn (fun y h => h) nd (fun y hy => Nat.lt_succ_of_lt (lt y hy)) ?_ ?_ hne) ⟨hX1, hX2, rfl, Nat.le_succ _, ?_, ?_⟩ (Or.inr ⟨_, rfl, Nat.lt_succ_self _, ?_, fun y hy => ?_, fun q => hn (List.mem_append_left _ (List.mem_append_left _ q)), Or.inr ⟨hab, rfl, rfl⟩⟩) (fun k i k3 k4 k6 k30 => ?_) (fun y hy => ?_)
        · show _ = s.2.1 + 1
          omega
        · show s.2.1 + 1 ≤ 601
          have : ([] : List Nat).length = 0 := rfl
          omega
        · have t : τ.1 + s.2.1 = σ.1 + (s.2.1 + 1) := t1
          have eb := cb_mk (s := s) (w := cs_six (nI a) (nI b) c d e f)
          show τ.1 + (s.2.1 + 3 * cb s.2.2.1 s.2.1) = σ.1 + (s.2.1 + 1 + 3 * cb (cs_mk s (cs_six (nI a) (nI b) c d e f)).2.2.1 (cs_mk s (cs_six (nI a) (nI b) c d e f)).2.1)
          omega
        · have t : τ.2.1 + 7 * s.2.1 = σ.2.1 + 7 * (s.2.1 + 1) := t2
          have eb := cb_mk (s := s) (w := cs_six (nI a) (nI b) c d e f)
          show τ.2.1 + (7 * s.2.1 + 204 * cb s.2.2.1 s.2.1) = σ.2.1 + (7 * (s.2.1 + 1) + 204 * cb (cs_mk s (cs_six (nI a) (nI b) c d e f)).2.2.1 (cs_mk s (cs_six (nI a) (nI b) c d e f)).2.1)
          omega
        · rw [push_vn (by omega)]
          exact mk_vm
        · rw [push_vn (by omega)]
          exact mk_v (fun q => hy q.2)
        · rw [push_vn (fun q => k4 q.1), mk_v (fun q => k30 q.1)]
        · rw [push_vn (by omega)]
          refine mk_v (fun q => hn ?_)
          rw [← q.2]
          rcases List.mem_append.mp hy with h | h
          · exact List.mem_append_left _ (List.mem_append_left _ h)
          · exact List.mem_append_right _ h
      · rw [List.concat_eq_append] at hU
        subst hU
        have hlen : (U' ++ [x]).length = U'.length + 1 := by rw [List.length_append]; rfl
        have hx8 : cs_r s 8 U'.length = some x := u2 _ _ (by rw [List.getElem?_append_right (Nat.le_refl _), Nat.sub_self]; rfl)
        have hxm := hL 8 _ _ hx8
        have es : cs_send s (nI a) (nI b) c d e f = (cs_push (cs_reuse s U'.length x (cs_six (nI a) (nI b) c d e f)) 4 h4 W.length x, some x) := by
          unfold cs_send
          rw [N2, if_neg hf, N3, if_neg (by omega), hlen, Nat.add_sub_cancel, hx8, N1, hkq]
        rw [es] at hτ t1 t2 ⊢
        have hpm : List.Perm (W ++ O ++ (U' ++ [x]) ++ hd) (x :: (W ++ O ++ U' ++ hd)) := by
          have e1 : W ++ O ++ (U' ++ [x]) ++ hd = (W ++ O ++ U') ++ x :: hd := by simp only [List.append_assoc, List.cons_append, List.nil_append]
          rw [e1]
          exact List.perm_middle
        obtain ⟨hn, hnd⟩ := List.nodup_cons.mp (hpm.nodup_iff.mp nd)
        have hlt : ∀ y, y ∈ W ++ O ++ U' ++ hd → y < s.2.1 := fun y hy => lt y (hpm.mem_iff.mpr (List.mem_cons_of_mem _ hy))
        refine hQ A' _ τ (W ++ [x]) O U' _ hτ (ct_pushW (ct_s1_re hL hxm) P0 a1 a2 a5 (by omega) ?_ (fun j y hy => u2 j y ?_) hn (fun y h => List.mem_append_left _ h) hnd hlt ?_ c2 hne) ⟨hX1, hX2, rfl, Nat.le_refl _, ?_, ?_⟩ (Or.inr ⟨x, rfl, hxm, ?_, fun y hy => ?_, fun q => hn (List.mem_append_left _ (List.mem_append_left _ q)), Or.inr ⟨hab, rfl, rfl⟩⟩) (fun k i k3 k4 k6 k30 => ?_) (fun y hy => ?_)
        · unfold cs_reuse
          rw [cs_u_ne (by omega), cs_u_eq, w_set_at]
        · have hj : j < U'.length := (List.getElem?_eq_some_iff.mp hy).1
          rw [List.getElem?_append_left hj]
          exact hy
        · show _ = s.2.1
          omega
        · have t : τ.1 + s.2.1 = σ.1 + s.2.1 := t1
          show τ.1 + ct_1 s = σ.1 + ct_1 s
          omega
        · have t : τ.2.1 + 7 * s.2.1 = σ.2.1 + 7 * s.2.1 := t2
          show τ.2.1 + ct_2 s = σ.2.1 + ct_2 s
          omega
        · rw [push_vn (by omega)]
          exact cs_u_eq
        · rw [push_vn (by omega)]
          unfold cs_reuse
          rw [cs_u_ne (fun q => hy q.2), cs_u_ne (by omega)]
        · rw [push_vn (fun q => k4 q.1)]
          unfold cs_reuse
          rw [cs_u_ne (fun q => k30 q.1), cs_u_ne (fun q => k3 q.1)]
        · rw [push_vn (by omega)]
          unfold cs_reuse
          rw [cs_u_ne (fun q => hn (by
            rw [← q.2]
            rcases List.mem_append.mp hy with h | h
            · exact List.mem_append_left _ (List.mem_append_left _ h)
            · exact List.mem_append_right _ h)), cs_u_ne (by omega)]
end DA
