/-! The class's state: n mains, messages made, which of them have a Row, the rows of messages (kinds 5, 7, 8), and of each cell (kind, number) its ints (an object's fields by their slots, an array's places).
Kinds: 0 the object, 1 nodes, 2 mains, 3 mail, 4 onWay, 5 its ring, 6 toSelf, 7 its ring, 8 unused; 9 a node, 10 its Row, 11 ballots, 12 commands; 13 a main, 14 its Log, 15 there, 16 commands, 17 memberBits, 18 Waiting, 19 its row; 20 Lead, 21 promises, 22 proposed, 23 commands, 24 takers, 25 slotTicks, 26 told, 27 a promise's Row (16 * main + node), 28 ballots, 29 commands; 30 a message, 31 its Row, 32 ballots, 33 commands. -/
abbrev cs_S : Type := Nat × Nat × (Nat → Bool) × (Nat → Nat → Option Nat) × (Nat → Nat → Nat → Int32)
section CS
variable {ar : Nat → ClassId} {A : tg_T → Nat} {s : cs_S} {σ : mj_S} {t : tg_T} {e e0 : va_E} {w : Nat → Int32} {k i : Nat}
def cs_rf (ar : Nat → ClassId) (c n : Nat) (g : Nat → Option Nat) : va_E := .inl (ar c, n, .inr (.inr (.inr (.inr g))))
def cs_1 (N : Nat) (A : tg_T → Nat) (k : Nat) : Nat → Option Nat := fun j => if j < N then some (A (k, j)) else none
def cs_m (A : tg_T → Nat) (r : Nat → Option Nat) : Nat → Option Nat := fun j => (r j).map (fun k => A (30, k))
/-- a cell by its kind, number i, ints w, messages r -/
def cs_c (ar : Nat → ClassId) (A : tg_T → Nat) (n m : Nat) (td : Nat → Bool) (r : Nat → Option Nat) (w : Nat → Int32) (i : Nat) : Nat → Option va_E
  | 0 => if i = 0 then some (.inr (9, [.int (w 0), .int (w 1), .int (w 2), .ref (A (1, i)), .ref (A (2, i)), .ref (A (3, i))])) else none
  | 1 => if i = 0 then some (cs_rf ar 7 (2 * n - 1) (cs_1 (2 * n - 1) A 9)) else none
  | 2 => if i = 0 then some (cs_rf ar 5 n (cs_1 n A 13)) else none
  | 3 => if i = 0 then some (.inr (2, [.ref (A (4, i)), .ref (A (6, i)), .ref (A (8, i)), .int (w 3), .int (w 4)])) else none
  | 4 => if i = 0 then some (.inr (6, [.ref (A (5, i)), .int (w 1), .int (w 2)])) else none
  | 5 => if i = 0 then some (cs_rf ar 6 300 (cs_m A r)) else none
  | 6 => if i = 0 then some (.inr (6, [.ref (A (7, i)), .int (w 1), .int (w 2)])) else none
  | 7 => if i = 0 then some (cs_rf ar 6 300 (cs_m A r)) else none
  | 8 => if i = 0 then some (cs_rf ar 6 601 (cs_m A r)) else none
  | 9 => if i < 2 * n - 1 then some (.inr (5, [.ref (A (10, i)), .int (w 1), .int (w 2), .int (w 3)])) else none
  | 10 => if i < 2 * n - 1 then some (.inr (7, [.ref (A (11, i)), .ref (A (12, i)), .int (w 2), .int (w 3)])) else none
  | 11 => if i < 2 * n - 1 then some (w_ia ar 100 w) else none
  | 12 => if i < 2 * n - 1 then some (w_ia ar 100 w) else none
  | 13 => if i < n then some (.inr (3, [.ref (A (14, i)), .ref (A (18, i)), .ref (A (20, i))])) else none
  | 14 => if i < n then some (.inr (1, [.ref (A (15, i)), .ref (A (16, i)), .ref (A (17, i)), .int (w 3), .int (w 4), .int (w 5), .int (w 6), .int (w 7)])) else none
  | 15 => if i < n then some (w_ba ar 100 w) else none
  | 16 => if i < n then some (w_ia ar 100 w) else none
  | 17 => if i < n then some (w_ia ar 104 w) else none
  | 18 => if i < n then some (.inr (8, [.ref (A (19, i)), .int (w 1), .int (w 2)])) else none
  | 19 => if i < n then some (w_ia ar 25 w) else none
  | 20 => if i < n then some (.inr (0, [.ref (A (21, i)), .ref (A (22, i)), .ref (A (23, i)), .ref (A (24, i)), .ref (A (25, i)), .ref (A (26, i)), .int (w 6), .int (w 7), .int (w 8), .int (w 9), .int (w 10), .int (w 11), .int (w 12)])) else none
  | 21 => if i < n then some (cs_rf ar 9 (2 * n - 1) (fun j => if j < 2 * n - 1 then some (A (27, 16 * i + j)) else none)) else none
  | 22 => if i < n then some (w_ba ar 100 w) else none
  | 23 => if i < n then some (w_ia ar 100 w) else none
  | 24 => if i < n then some (w_ia ar 100 w) else none
  | 25 => if i < n then some (w_ia ar 100 w) else none
  | 26 => if i < n then some (w_ia ar 5 w) else none
  | 27 => if i / 16 < n ∧ i % 16 < 2 * n - 1 then some (.inr (7, [.ref (A (28, i)), .ref (A (29, i)), .int (w 2), .int (w 3)])) else none
  | 28 => if i / 16 < n ∧ i % 16 < 2 * n - 1 then some (w_ia ar 100 w) else none
  | 29 => if i / 16 < n ∧ i % 16 < 2 * n - 1 then some (w_ia ar 100 w) else none
  | 30 => if i < m then some (.inr (4, [.int (w 0), .int (w 1), .int (w 2), .int (w 3), .int (w 4), .int (w 5), if td i then .ref (A (31, i)) else .null])) else none
  | 31 => if i < m ∧ td i = true then some (.inr (7, [.ref (A (32, i)), .ref (A (33, i)), .int (w 2), .int (w 3)])) else none
  | 32 => if i < m ∧ td i = true then some (w_ia ar 100 w) else none
  | 33 => if i < m ∧ td i = true then some (w_ia ar 100 w) else none
  | _ => none
def cs_v (s : cs_S) : Nat → Nat → Nat → Int32 := s.2.2.2.2
def cs_r (s : cs_S) : Nat → Nat → Option Nat := s.2.2.2.1
def cs_h (ar : Nat → ClassId) (A : tg_T → Nat) (s : cs_S) : tg_T → Option va_E := fun t => cs_c ar A s.1 s.2.1 s.2.2.1 (cs_r s t.1) (cs_v s t.1 t.2) t.2 t.1
/-- cell (k, i)'s ints are w -/
def cs_u (s : cs_S) (k i : Nat) (w : Nat → Int32) : cs_S := (s.1, s.2.1, s.2.2.1, s.2.2.2.1, fun k' i' => if k' = k ∧ i' = i then w else s.2.2.2.2 k' i')
/-- the row of messages of kind k is r -/
def cs_ur (s : cs_S) (k : Nat) (r : Nat → Option Nat) : cs_S := (s.1, s.2.1, s.2.2.1, fun k' => if k' = k then r else s.2.2.2.1 k', s.2.2.2.2)
theorem cs_u_eq : cs_v (cs_u s k i w) k i = w := if_pos ⟨rfl, rfl⟩
theorem cs_u_ne {k' i' : Nat} (h : ¬ (k' = k ∧ i' = i)) : cs_v (cs_u s k i w) k' i' = cs_v s k' i' := if_neg h
theorem cs_u_at : cs_h ar A (cs_u s k i w) (k, i) = cs_c ar A s.1 s.2.1 s.2.2.1 (cs_r s k) w i k := by
  unfold cs_h
  rw [cs_u_eq]
  rfl
theorem cs_u_off (h : t ≠ (k, i)) : cs_h ar A (cs_u s k i w) t = cs_h ar A s t := by
  obtain ⟨k', i'⟩ := t
  have h' : ¬ (k' = k ∧ i' = i) := fun q => h (by rw [q.1, q.2])
  unfold cs_h
  dsimp only
  rw [cs_u_ne h']
  rfl
theorem cs_u_up (he : cs_c ar A s.1 s.2.1 s.2.2.1 (cs_r s k) w i k = some e) : cs_h ar A (cs_u s k i w) = tg_up (cs_h ar A s) (k, i) e := by
  funext t
  by_cases h : t = (k, i)
  · subst h
    rw [cs_u_at, he, tg_ue]
  · rw [cs_u_off h, tg_un h]
/-- a cell's ints are set -/
theorem cs_set (h : tg_R A (cs_h ar A s) σ) (h0 : cs_h ar A s (k, i) = some e0) (he : cs_c ar A s.1 s.2.1 s.2.2.1 (cs_r s k) w i k = some e) : tg_R A (cs_h ar A (cs_u s k i w)) (mj_up σ (A (k, i)) e) := tg_eq (tg_set h h0 e) (cs_u_up he)
theorem cs_ur_up {r : Nat → Option Nat} (hk : k = 5 ∨ k = 7 ∨ k = 8) (he : cs_c ar A s.1 s.2.1 s.2.2.1 r (cs_v s k 0) 0 k = some e) : cs_h ar A (cs_ur s k r) = tg_up (cs_h ar A s) (k, 0) e := by
  funext t
  obtain ⟨k', i'⟩ := t
  by_cases hk' : k' = k
  · subst hk'
    by_cases hi : i' = 0
    · subst hi
      rw [tg_ue, ← he]
      unfold cs_h cs_ur cs_r cs_v
      simp
    · rw [tg_un (fun q => hi (congrArg Prod.snd q))]
      rcases hk with rfl | rfl | rfl <;> simp [cs_h, cs_c, hi]
  · rw [tg_un (fun q => hk' (congrArg Prod.fst q))]
    unfold cs_h cs_ur cs_r cs_v
    simp [hk']
theorem cs_setr {r : Nat → Option Nat} (h : tg_R A (cs_h ar A s) σ) (hk : k = 5 ∨ k = 7 ∨ k = 8) (h0 : cs_h ar A s (k, 0) = some e0) (he : cs_c ar A s.1 s.2.1 s.2.2.1 r (cs_v s k 0) 0 k = some e) : tg_R A (cs_h ar A (cs_ur s k r)) (mj_up σ (A (k, 0)) e) := tg_eq (tg_set h h0 e) (cs_ur_up hk he)
end CS
