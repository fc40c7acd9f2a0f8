/-! the reference's messages: those on the way (W), those that a node sent to itself (O), those in hand (hd); each has its place of the pool -/
section RP
variable {ar : Nat → ClassId} {B z q : Nat} {s s' : rs_S} {σ : mj_S} {Q : (Option Value ⊕ String) → mj_S → Prop} {W O hd : List Nat} {n : Nat}
/-- what a message may hold: nodes, a BALLOT, a slot -/
def rg_M (n a b : Nat) (k d e : Int32) : Prop := a < n ∧ b < n ∧ (∃ bl : Nat, bl ≤ 8007 ∧ d = nI bl) ∧ ∃ t : Nat, t ≤ 100 ∧ e = nI t ∧ (k = 3 ∨ k = 4 ∨ k = 5 → t < 100)
def rs_mg (s : rs_S) (n p : Nat) : Prop := ∃ a b : Nat, s.2 29 p = nI a ∧ s.2 30 p = nI b ∧ rg_M n a b (s.2 31 p) (s.2 32 p) (s.2 33 p)
def rs_P (s : rs_S) (n : Nat) (W O hd : List Nat) : Prop :=
  (s.1 28 = nI W.length ∧ W.length ≤ 300 ∧ s.1 30 = nI O.length ∧ O.length ≤ 110) ∧ (∀ i p, W[i]? = some p → s.2 26 i = nI p) ∧ (∀ i p, O[i]? = some p → s.2 27 i = nI p) ∧ (W ++ O ++ hd).Nodup ∧ (∀ p, p ∈ W ++ O ++ hd → p < 420 ∧ ¬ s.2 28 p = 0 ∧ rs_mg s n p) ∧ (∀ p, p < 420 → ¬ s.2 28 p = 0 → p ∈ W ++ O ++ hd) ∧ (∀ p ∈ W, ¬ s.2 29 p = s.2 30 p) ∧ (∀ p ∈ O, s.2 29 p = s.2 30 p)
/-- all but the messages stays; messages that were there stay -/
def rs_F (s s' : rs_S) (L : List Nat) : Prop := (∀ t, t < 26 ∨ 34 < t → s'.2 t = s.2 t) ∧ (∀ j, ¬ j = 28 → ¬ j = 30 → ¬ j = 41 → s'.1 j = s.1 j) ∧ ∀ p ∈ L, ∀ t, 28 ≤ t → t ≤ 34 → s'.2 t p = s.2 t p
theorem pigeon : ∀ (N : Nat) (L : List Nat), (∀ p, p < N → p ∈ L) → N ≤ L.length
  | 0, _, _ => Nat.zero_le _
  | N + 1, L, h => by
    have h1 : N ∈ L := h N (Nat.lt_succ_self _)
    have h2 := pigeon N (L.erase N) (fun p hp => (List.mem_erase_of_ne (by omega)).mpr (h p (by omega)))
    have h3 := List.length_erase_of_mem h1
    have h4 : 0 < L.length := List.length_pos_of_mem h1
    omega
theorem first_0 {f : Nat → Int32} : ∀ N : Nat, (∀ i, i < N → ¬ f i = 0) ∨ ∃ p, p < N ∧ f p = 0 ∧ ∀ i, i < p → ¬ f i = 0
  | 0 => Or.inl (fun i h => absurd h (Nat.not_lt_zero _))
  | N + 1 => by
    rcases first_0 (f := f) N with h | ⟨p, h1, h2⟩
    · by_cases hN : f N = 0
      · exact Or.inr ⟨N, Nat.lt_succ_self _, hN, h⟩
      · refine Or.inl (fun i hi => ?_)
        by_cases e : i = N
        · rw [e]
          exact hN
        · exact h i (by omega)
    · exact Or.inr ⟨p, by omega, h2⟩
theorem rs_free (P : rs_P s n W O hd) (hl : W.length + O.length + hd.length ≤ 419) : ∃ p, p < 420 ∧ s.2 28 p = 0 ∧ ∀ i, i < p → ¬ s.2 28 i = 0 := by
  rcases first_0 (f := s.2 28) 420 with h | h
  · have h1 := pigeon 420 (W ++ O ++ hd) (fun p hp => P.2.2.2.2.2.1 p hp (h p hp))
    rw [List.length_append, List.length_append] at h1
    omega
  · exact h
theorem upd_ne {f : Nat → Int32} {i j : Nat} {a : Int32} (h : ¬ j = i) : upd f i a j = f j := if_neg h
theorem rs_mg_kept {p : Nat} (h : rs_mg s n p) (e : ∀ t, 28 ≤ t → t ≤ 34 → s'.2 t p = s.2 t p) : rs_mg s' n p := by
  obtain ⟨a, b, h1, h2, h3⟩ := h
  refine ⟨a, b, by rw [e 29 (by decide) (by decide)]; exact h1, by rw [e 30 (by decide) (by decide)]; exact h2, ?_⟩
  rw [e 31 (by decide) (by decide), e 32 (by decide) (by decide), e 33 (by decide) (by decide)]
  exact h3
theorem so_at {p o t j : Nat} {a k d e f : Int32} (h1 : 28 ≤ t) (h2 : t ≤ 34) (hj : ¬ j = p) : (rs_so s p o a k d e f).2 t j = s.2 t j := by
  have h : t = 28 ∨ t = 29 ∨ t = 30 ∨ t = 31 ∨ t = 32 ∨ t = 33 ∨ t = 34 := by omega
  rcases h with rfl | rfl | rfl | rfl | rfl | rfl | rfl <;> exact upd_ne hj
theorem sw_at {p w t j : Nat} {a b k d e f : Int32} (h1 : 28 ≤ t) (h2 : t ≤ 34) (hj : ¬ j = p) : (rs_sw s p w a b k d e f).2 t j = s.2 t j := by
  have h : t = 28 ∨ t = 29 ∨ t = 30 ∨ t = 31 ∨ t = 32 ∨ t = 33 ∨ t = 34 := by omega
  rcases h with rfl | rfl | rfl | rfl | rfl | rfl | rfl <;> exact upd_ne hj
theorem so_t {p o t : Nat} {a k d e f : Int32} (h : t < 27 ∨ 34 < t) : (rs_so s p o a k d e f).2 t = s.2 t := by
  show (if t = 27 then _ else if t = 34 then _ else if t = 33 then _ else if t = 32 then _ else if t = 31 then _ else if t = 30 then _ else if t = 29 then _ else if t = 28 then _ else s.2 t) = s.2 t
  rw [if_neg (by omega), if_neg (by omega), if_neg (by omega), if_neg (by omega), if_neg (by omega), if_neg (by omega), if_neg (by omega), if_neg (by omega)]
theorem sw_t {p w t : Nat} {a b k d e f : Int32} (h : t < 26 ∨ t = 27 ∨ 34 < t) : (rs_sw s p w a b k d e f).2 t = s.2 t := by
  show (if t = 26 then _ else if t = 34 then _ else if t = 33 then _ else if t = 32 then _ else if t = 31 then _ else if t = 30 then _ else if t = 29 then _ else if t = 28 then _ else s.2 t) = s.2 t
  rw [if_neg (by omega), if_neg (by omega), if_neg (by omega), if_neg (by omega), if_neg (by omega), if_neg (by omega), if_neg (by omega), if_neg (by omega)]
theorem rs_F_so {p o : Nat} {a k d e f : Int32} {L : List Nat} (hp : ¬ p ∈ L) : rs_F s (rs_so s p o a k d e f) L := by
  refine ⟨fun t h => so_t (by omega), fun j h1 h2 h3 => upd_ne h2, fun j hj t h1 h2 => so_at h1 h2 (fun e => hp (e ▸ hj))⟩
theorem rs_F_sw {p w : Nat} {a b k d e f : Int32} {L : List Nat} (hp : ¬ p ∈ L) : rs_F s (rs_sw s p w a b k d e f) L := by
  refine ⟨fun t h => sw_t (by omega), fun j h1 h2 h3 => upd_ne h1, fun j hj t h1 h2 => sw_at h1 h2 (fun e => hp (e ▸ hj))⟩
theorem rs_F_ls {x : Int32} {L : List Nat} : rs_F s (rs_w s 41 x) L := ⟨fun _ _ => rfl, fun j h1 h2 h3 => upd_ne h3, fun _ _ _ _ _ => rfl⟩
theorem ap_at {L : List Nat} {i p x : Nat} (h : (L ++ [p])[i]? = some x) : (i < L.length ∧ L[i]? = some x) ∨ (i = L.length ∧ x = p) := by
  by_cases hi : i < L.length
  · rw [List.getElem?_append_left hi] at h
    exact Or.inl ⟨hi, h⟩
  · rw [List.getElem?_append_right (Nat.not_lt.mp hi)] at h
    by_cases h0 : i - L.length = 0
    · rw [h0] at h
      exact Or.inr ⟨by omega, (Option.some.inj h).symm⟩
    · obtain ⟨j, hj⟩ : ∃ j, i - L.length = j + 1 := ⟨i - L.length - 1, by omega⟩
      rw [hj] at h
      cases h
end RP
