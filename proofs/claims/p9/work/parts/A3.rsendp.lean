section RS3
variable {ar : Nat → ClassId} {B z q : Nat} {s s' : rs_S} {σ : mj_S} {Q : (Option Value ⊕ String) → mj_S → Prop} {W O hd : List Nat} {n : Nat}
theorem ins_perm {X Y : List Nat} {p : Nat} : List.Perm (X ++ [p] ++ Y) (p :: (X ++ Y)) := by
  rw [List.append_assoc]
  exact List.perm_middle
theorem ins_nd {X Y : List Nat} {p : Nat} (h : (X ++ Y).Nodup) (hp : ¬ p ∈ X ++ Y) : (X ++ [p] ++ Y).Nodup := ins_perm.nodup_iff.mpr (List.nodup_cons.mpr ⟨hp, h⟩)
theorem ins_mem {X Y : List Nat} {p x : Nat} : x ∈ X ++ [p] ++ Y ↔ x = p ∨ x ∈ X ++ Y := ins_perm.mem_iff.trans List.mem_cons
theorem P_out (P : rs_P s n W O hd) {p : Nat} (hp0 : s.2 28 p = 0) : ¬ p ∈ W ++ O ++ hd := fun h => (P.2.2.2.2.1 p h).2.1 hp0
theorem P_own {p a : Nat} {k d e f : Int32} (P : rs_P s n W O hd) (hp0 : s.2 28 p = 0) (h4 : p < 420) (hM : rg_M n a a k d e) (ho : O.length < 110) : rs_P (rs_so s p O.length (nI a) k d e f) n W (O ++ [p]) hd := by
  have hout := P_out P hp0
  obtain ⟨⟨p1, p2, p3, p4⟩, pw, po, pn, pm, pu, pa, pb⟩ := P
  have hne : ∀ j, j ∈ W ++ O ++ hd → ¬ j = p := fun j hj e => hout (e ▸ hj)
  have hW : ∀ j, j ∈ W → j ∈ W ++ O ++ hd := fun j h => List.mem_append_left _ (List.mem_append_left _ h)
  have hO : ∀ j, j ∈ O → j ∈ W ++ O ++ hd := fun j h => List.mem_append_left _ (List.mem_append_right _ h)
  have hmem : ∀ x, x ∈ W ++ (O ++ [p]) ++ hd ↔ x = p ∨ x ∈ W ++ O ++ hd := fun x => by
    rw [← List.append_assoc]
    exact ins_mem
  refine ⟨⟨p1, p2, ?_, ?_⟩, pw, fun i x hx => ?_, ?_, fun x hx => ?_, fun x h1 h2 => ?_, fun x hx => ?_, fun x hx => ?_⟩
  · show nI (O.length + 1) = _
    rw [List.length_append]
    rfl
  · rw [List.length_append]
    show O.length + 1 ≤ 110
    omega
  · show upd (s.2 27) O.length (nI p) i = nI x
    rcases ap_at hx with ⟨h1, h2⟩ | ⟨rfl, rfl⟩
    · rw [upd_ne (by omega)]
      exact po i x h2
    · exact upd_at
  · rw [← List.append_assoc]
    exact ins_nd pn hout
  · rcases (hmem x).mp hx with rfl | h
    · refine ⟨h4, ?_, a, a, upd_at, upd_at, ?_⟩
      · show ¬ upd (s.2 28) x 1 x = 0
        rw [upd_at]
        decide
      · show rg_M n a a (upd (s.2 31) x k x) (upd (s.2 32) x d x) (upd (s.2 33) x e x)
        rw [upd_at, upd_at, upd_at]
        exact hM
    · obtain ⟨q1, q2, q3⟩ := pm x h
      refine ⟨q1, ?_, rs_mg_kept q3 (fun t h1 h2 => so_at h1 h2 (hne x h))⟩
      rw [so_at (by decide) (by decide) (hne x h)]
      exact q2
  · refine (hmem x).mpr ?_
    by_cases e : x = p
    · exact Or.inl e
    · rw [so_at (by decide) (by decide) e] at h2
      exact Or.inr (pu x h1 h2)
  · rw [so_at (by decide) (by decide) (hne x (hW x hx)), so_at (by decide) (by decide) (hne x (hW x hx))]
    exact pa x hx
  · rcases List.mem_append.mp hx with h | h
    · rw [so_at (by decide) (by decide) (hne x (hO x h)), so_at (by decide) (by decide) (hne x (hO x h))]
      exact pb x h
    · have e : x = p := List.mem_singleton.mp h
      subst e
      show upd (s.2 29) x (nI a) x = upd (s.2 30) x (nI a) x
      rw [upd_at, upd_at]
theorem P_way {p a b : Nat} {k d e f : Int32} (P : rs_P s n W O hd) (hp0 : s.2 28 p = 0) (h4 : p < 420) (hM : rg_M n a b k d e) (hab : ¬ nI a = nI b) (hw : W.length < 300) : rs_P (rs_sw s p W.length (nI a) (nI b) k d e f) n (W ++ [p]) O hd := by
  have hout := P_out P hp0
  obtain ⟨⟨p1, p2, p3, p4⟩, pw, po, pn, pm, pu, pa, pb⟩ := P
  have hne : ∀ j, j ∈ W ++ O ++ hd → ¬ j = p := fun j hj e => hout (e ▸ hj)
  have hW : ∀ j, j ∈ W → j ∈ W ++ O ++ hd := fun j h => List.mem_append_left _ (List.mem_append_left _ h)
  have hO : ∀ j, j ∈ O → j ∈ W ++ O ++ hd := fun j h => List.mem_append_left _ (List.mem_append_right _ h)
  have hmem : ∀ x, x ∈ W ++ [p] ++ O ++ hd ↔ x = p ∨ x ∈ W ++ O ++ hd := fun x => by
    rw [List.append_assoc (W ++ [p]) O hd, List.append_assoc W O hd]
    exact ins_mem
  refine ⟨⟨?_, ?_, p3, p4⟩, fun i x hx => ?_, po, ?_, fun x hx => ?_, fun x h1 h2 => ?_, fun x hx => ?_, fun x hx => ?_⟩
  · show nI (W.length + 1) = _
    rw [List.length_append]
    rfl
  · rw [List.length_append]
    show W.length + 1 ≤ 300
    omega
  · show upd (s.2 26) W.length (nI p) i = nI x
    rcases ap_at hx with ⟨h1, h2⟩ | ⟨rfl, rfl⟩
    · rw [upd_ne (by omega)]
      exact pw i x h2
    · exact upd_at
  · rw [List.append_assoc (W ++ [p])]
    refine ins_nd ?_ ?_
    · rw [← List.append_assoc]
      exact pn
    · rw [← List.append_assoc]
      exact hout
  · rcases (hmem x).mp hx with rfl | h
    · refine ⟨h4, ?_, a, b, upd_at, upd_at, ?_⟩
      · show ¬ upd (s.2 28) x 1 x = 0
        rw [upd_at]
        decide
      · show rg_M n a b (upd (s.2 31) x k x) (upd (s.2 32) x d x) (upd (s.2 33) x e x)
        rw [upd_at, upd_at, upd_at]
        exact hM
    · obtain ⟨q1, q2, q3⟩ := pm x h
      refine ⟨q1, ?_, rs_mg_kept q3 (fun t h1 h2 => sw_at h1 h2 (hne x h))⟩
      rw [sw_at (by decide) (by decide) (hne x h)]
      exact q2
  · refine (hmem x).mpr ?_
    by_cases e : x = p
    · exact Or.inl e
    · rw [sw_at (by decide) (by decide) e] at h2
      exact Or.inr (pu x h1 h2)
  · rcases List.mem_append.mp hx with h | h
    · rw [sw_at (by decide) (by decide) (hne x (hW x h)), sw_at (by decide) (by decide) (hne x (hW x h))]
      exact pa x h
    · have e : x = p := List.mem_singleton.mp h
      subst e
      show ¬ upd (s.2 29) x (nI a) x = upd (s.2 30) x (nI b) x
      rw [upd_at, upd_at]
      exact hab
  · rw [sw_at (by decide) (by decide) (hne x (hO x hx)), sw_at (by decide) (by decide) (hne x (hO x hx))]
    exact pb x hx
theorem P_ls {x : Int32} (P : rs_P s n W O hd) : rs_P (rs_w s 41 x) n W O hd := P
/-- what a send comes to -/
def rs_sent (s s' : rs_S) (W O hd W' O' : List Nat) (a b : Nat) (k d e r : Int32) : Prop := (r = -1 ∧ W' = W ∧ O' = O) ∨ ∃ p, p < 420 ∧ r = nI p ∧ (¬ p ∈ W ++ O ++ hd) ∧ (s'.2 29 p = nI a ∧ s'.2 30 p = nI b ∧ s'.2 31 p = k ∧ s'.2 32 p = d ∧ s'.2 33 p = e) ∧ ((a = b ∧ W' = W ∧ O' = O ++ [p]) ∨ (¬ a = b ∧ W' = W ++ [p] ∧ O' = O))
theorem R_sendP {a b : Nat} {k d e f : Int32} (hn : n ≤ 9) (P : rs_P s n W O hd) (hM : rg_M n a b k d e) (hl : W.length + O.length + hd.length ≤ 419) (ho : a = b → O.length < 110) (hQ : ∀ (s' : rs_S) (r : Int32) (W' O' : List Nat), rs_P s' n W' O' hd → rs_F s s' (W ++ O ++ hd) → rs_sent s s' W O hd W' O' a b k d e r → Q (.inl (some (.int r))) (rs_st ar B z q s')) : mj_wp (tb ar) 96 (mj_en (tb ar) 96 [.ref B, .int (nI a), .int (nI b), .int k, .int d, .int e, .int f] (rs_st ar B z q s)) Q := by
  obtain ⟨p, h4, hp0, hu⟩ := rs_free P hl
  have hout := P_out P hp0
  by_cases hab : a = b
  · subst hab
    refine (R_send_own hu hp0 h4 P.1.2.2.1 (ho rfl)).mpr ?_
    refine hQ _ _ W (O ++ [p]) (P_own P hp0 h4 hM (ho rfl)) (rs_F_so hout) (Or.inr ⟨p, h4, rfl, hout, ⟨upd_at, upd_at, upd_at, upd_at, upd_at⟩, Or.inl ⟨rfl, rfl, rfl⟩⟩)
  · have hab' : ¬ nI a = nI b := fun h => hab ((nI_eq (by have := hM.1; omega) (by have := hM.2.1; omega)).mp h)
    by_cases hw : W.length = 300
    · refine (R_send_full hab' (by rw [P.1.1, hw]; rfl)).mpr ?_
      exact hQ _ _ W O (P_ls P) rs_F_ls (Or.inl ⟨rfl, rfl, rfl⟩)
    · have hw3 : W.length < 300 := by
        have := P.1.2.1
        omega
      refine (R_send_way hab' hu hp0 h4 P.1.1 hw3).mpr ?_
      refine hQ _ _ (W ++ [p]) O (P_way P hp0 h4 hM hab' hw3) (rs_F_sw hout) (Or.inr ⟨p, h4, rfl, hout, ⟨upd_at, upd_at, upd_at, upd_at, upd_at⟩, Or.inr ⟨hab, rfl, rfl⟩⟩)
end RS3
