section CS4
variable {ar : Nat → ClassId} {B m : Nat} {σ τ : mj_S} {o : va_E} {Q : (Option Value ⊕ String) → mj_S → Prop}
/-- the description while mains are made: k of them -/
def hm_ (ar : Nat → ClassId) (B m : Nat) (o : va_E) (k : Nat) : tg_T → Option va_E := fun t => if t = (0, 0) then some o else if t = (2, 0) then some (cs_rf ar 5 m (cs_1 k (fa B m) 13)) else if t = (1, 0) ∨ (9 ≤ t.1 ∧ t.1 ≤ 12) then c0_h ar B m t else if (13 ≤ t.1 ∧ t.1 ≤ 26 ∧ t.2 < k) ∨ (27 ≤ t.1 ∧ t.1 ≤ 29 ∧ t.2 / 16 < k) then c0_h ar B m t else none
/-- where main k begins -/
abbrev mb_ (B m k : Nat) : Nat := B + 2 + 4 * (2 * m - 1) + 1 + k * (14 + 3 * (2 * m - 1))
abbrev ml_ (ar : Nat → ClassId) (a m k : Nat) : List (tg_T × Nat × va_E) := [((13, k), 3, mn_o a), ((14, k), 8, .inr (1, [.ref (a + 2), .ref (a + 3), .ref (a + 4), .int 0, .int 0, .int 0, .int 0, .int (-1)])), ((15, k), 100, w_ba ar 100 (fun _ => 0)), ((16, k), 100, w_z ar 100), ((17, k), 104, w_ia ar 104 (lg_mb ((1 <<< (nI m &&& 31)) - 1) 4)), ((18, k), 3, .inr (8, [.ref (a + 6), .int 0, .int 0])), ((19, k), 25, w_z ar 25), ((20, k), 13, ld_o (a + 7)), ((22, k), 100, w_ba ar 100 (fun _ => 0)), ((23, k), 100, w_z ar 100), ((24, k), 100, w_z ar 100), ((25, k), 100, w_z ar 100), ((26, k), 5, w_z ar 5), ((21, k), 2 * m - 1, cs_rf ar 9 (2 * m - 1) (fun _ => none))]
theorem ml_in {a k : Nat} {p : tg_T × Nat × va_E} (hp : p ∈ ml_ ar a m k) : 13 ≤ p.1.1 ∧ p.1.1 ≤ 26 ∧ p.1.2 = k := by
  simp only [List.mem_cons, List.not_mem_nil, or_false] at hp
  rcases hp with rfl | rfl | rfl | rfl | rfl | rfl | rfl | rfl | rfl | rfl | rfl | rfl | rfl | rfl <;> exact ⟨by dsimp only; omega, by dsimp only; omega, rfl⟩
theorem ml_nd {a k : Nat} : ((ml_ ar a m k).map Prod.fst).Nodup := by simp
theorem hm_s {k : Nat} (hm5 : m ≤ 5) (hk : k < m) (h : tg_R (fa B m) (hm_ ar B m o k) τ) (h1 : τ.1 = mb_ B m k) : tg_R (fa B m) (hm_ ar B m o (k + 1)) (mj_up (mj_up (ld_ad ar (mj_ads (mj_add τ 3 (mn_o τ.1)) (mn_c ar τ.1 (nI m) (2 * m - 1))) (2 * m - 1)) (τ.1 + 13) (cs_rf ar 9 (2 * m - 1) (ld_pr (τ.1 + 14) (2 * m - 1)))) (B + 2 + 4 * (2 * m - 1)) (cs_rf ar 5 m (cs_1 (k + 1) (fa B m) 13))) := by
  have hz : ∀ a b, 13 ≤ a → a ≤ 26 → ¬ b < k → hm_ ar B m o k (a, b) = none := fun a b ha ha2 hb => by
    unfold hm_
    rw [if_neg (fun e => by have := congrArg Prod.fst e; dsimp only at this; omega), if_neg (fun e => by have := congrArg Prod.fst e; dsimp only at this; omega), if_neg (fun e => e.elim (fun e => by have := congrArg Prod.fst e; dsimp only at this; omega) (fun e => by dsimp only at e; omega)), if_neg (by dsimp only; omega)]
  have hz2 : ∀ a b, 27 ≤ a → a ≤ 29 → ¬ b / 16 < k → hm_ ar B m o k (a, b) = none := fun a b ha ha2 hb => by
    unfold hm_
    rw [if_neg (fun e => by have := congrArg Prod.fst e; dsimp only at this; omega), if_neg (fun e => by have := congrArg Prod.fst e; dsimp only at this; omega), if_neg (fun e => e.elim (fun e => by have := congrArg Prod.fst e; dsimp only at this; omega) (fun e => by dsimp only at e; omega)), if_neg (by dsimp only; omega)]
  have q1 := tg_adsR (A := fa B m) (ml_ ar τ.1 m k) _ _ h (by
    intro p hp
    obtain ⟨⟨a, b⟩, n', e'⟩ := p
    obtain ⟨i1, i2, i3⟩ := ml_in hp
    dsimp only at i1 i2 i3 ⊢
    exact hz a b i1 i2 (by omega)) ml_nd (by
    intro j p hj
    rw [h1]
    match j, hj with
    | 0, hj => cases hj; rfl
    | 1, hj => cases hj; rfl
    | 2, hj => cases hj; rfl
    | 3, hj => cases hj; rfl
    | 4, hj => cases hj; rfl
    | 5, hj => cases hj; rfl
    | 6, hj => cases hj; rfl
    | 7, hj => cases hj; rfl
    | 8, hj => cases hj; rfl
    | 9, hj => cases hj; rfl
    | 10, hj => cases hj; rfl
    | 11, hj => cases hj; rfl
    | 12, hj => cases hj; rfl
    | 13, hj => cases hj; rfl
    | j + 14, hj => simp at hj)
  have b1 : (mj_ads τ ((ml_ ar τ.1 m k).map Prod.snd)).1 = τ.1 + 14 := by rw [ads_1]; rfl
  have d1 : ∀ j, j < 2 * m - 1 → (16 * k + j) / 16 = k ∧ (16 * k + j) % 16 = j := fun j hj => by omega
  have a27 : ∀ j, j < 2 * m - 1 → fa B m (27, 16 * k + j) = τ.1 + 14 + 3 * j ∧ fa B m (28, 16 * k + j) = τ.1 + 14 + 3 * j + 1 ∧ fa B m (29, 16 * k + j) = τ.1 + 14 + 3 * j + 2 := fun j hj => by
    obtain ⟨d2, d3⟩ := d1 j hj
    have e27 : fa B m (27, 16 * k + j) = B + 2 + 4 * (2 * m - 1) + 1 + (16 * k + j) / 16 * (14 + 3 * (2 * m - 1)) + 14 + 3 * ((16 * k + j) % 16) := rfl
    have e28 : fa B m (28, 16 * k + j) = B + 2 + 4 * (2 * m - 1) + 1 + (16 * k + j) / 16 * (14 + 3 * (2 * m - 1)) + 15 + 3 * ((16 * k + j) % 16) := rfl
    have e29 : fa B m (29, 16 * k + j) = B + 2 + 4 * (2 * m - 1) + 1 + (16 * k + j) / 16 * (14 + 3 * (2 * m - 1)) + 16 + 3 * ((16 * k + j) % 16) := rfl
    rw [e27, e28, e29, d2, d3, h1]
    unfold mb_
    generalize k * (14 + 3 * (2 * m - 1)) = z
    refine ⟨rfl, ?_, ?_⟩ <;> omega
  have q2 := T_rows (ar := ar) (G := c0_h ar B m) (i := k) (n := 2 * m - 1) (by omega) q1 (by
    intro j hj
    rw [b1]
    exact a27 j hj) (by
    intro a j ha ha2 hj
    rw [tg_ups_not _ _ (by
      intro p hp e
      have := (ml_in hp).2.1
      rw [e] at this
      dsimp only at this
      omega)]
    exact hz2 a _ ha ha2 (by have := (d1 j hj).1; omega)) (by
    intro j hj
    obtain ⟨d2, d3⟩ := d1 j hj
    obtain ⟨a1, a2, a3⟩ := a27 j hj
    have hc : (16 * k + j) / 16 < m ∧ (16 * k + j) % 16 < 2 * m - 1 := by rw [d2, d3]; exact ⟨hk, hj⟩
    refine ⟨?_, ?_, ?_⟩
    · have g : c0_h ar B m (27, 16 * k + j) = some (.inr (7, [.ref (fa B m (28, 16 * k + j)), .ref (fa B m (29, 16 * k + j)), .int 0, .int 0])) := if_pos hc
      rw [g, a2, a3, b1]
    · have g : c0_h ar B m (28, 16 * k + j) = some (w_z ar 100) := if_pos hc
      exact g
    · have g : c0_h ar B m (29, 16 * k + j) = some (w_z ar 100) := if_pos hc
      exact g) (2 * m - 1) (Nat.le_refl _)
  have q3 := tg_set (t := (21, k)) (e0 := cs_rf ar 9 (2 * m - 1) (fun _ => none)) q2 (by
    rw [if_neg (by dsimp only; omega)]
    exact tg_ups_mem (n := 2 * m - 1) _ _ ml_nd (by simp)) (cs_rf ar 9 (2 * m - 1) (ld_pr (τ.1 + 14) (2 * m - 1)))
  have p2 : ∀ p ∈ ml_ ar τ.1 m k, p.1 ≠ ((2, 0) : tg_T) := fun p hp e => by
    have := (ml_in hp).1
    rw [e] at this
    exact absurd this (by decide)
  have q4 := tg_set (t := (2, 0)) (e0 := cs_rf ar 5 m (cs_1 k (fa B m) 13)) q3 (by
    rw [tg_un (by simp), if_neg (by dsimp only; omega), tg_ups_not _ _ p2]
    rfl) (cs_rf ar 5 m (cs_1 (k + 1) (fa B m) 13))
  have ad : fa B m (21, k) = τ.1 + 13 := by rw [h1]; rfl
  rw [ad] at q4
  refine tg_sub q4 ?_
  intro t e ht
  obtain ⟨a, b⟩ := t
  have thru : ∀ (x : tg_T), x ≠ (2, 0) → x ≠ (21, k) → ¬ ((27 ≤ x.1 ∧ x.1 ≤ 29) ∧ x.2 / 16 = k ∧ x.2 % 16 < 2 * m - 1) → (∀ p ∈ ml_ ar τ.1 m k, p.1 ≠ x) → tg_up (tg_up (fun t => if (27 ≤ t.1 ∧ t.1 ≤ 29) ∧ t.2 / 16 = k ∧ t.2 % 16 < 2 * m - 1 then c0_h ar B m t else tg_ups (hm_ ar B m o k) (ml_ ar τ.1 m k) t) (21, k) (cs_rf ar 9 (2 * m - 1) (ld_pr (τ.1 + 14) (2 * m - 1)))) (2, 0) (cs_rf ar 5 m (cs_1 (k + 1) (fa B m) 13)) x = hm_ ar B m o k x := fun x x1 x2 x3 x4 => by
    rw [tg_un x1, tg_un x2, if_neg x3, tg_ups_not _ _ x4]
  have notin : ∀ a b, (a < 13 ∨ 26 < a ∨ b ≠ k) → ∀ p ∈ ml_ ar τ.1 m k, p.1 ≠ (a, b) := fun a b hab p hp e => by
    obtain ⟨i1, i2, i3⟩ := ml_in hp
    rw [e] at i1 i2 i3
    dsimp only at i1 i2 i3
    omega
  unfold hm_ at ht
  by_cases t0 : (a, b) = ((0, 0) : tg_T)
  · rw [if_pos t0] at ht
    cases t0
    cases ht
    rw [thru _ (by simp) (by simp) (by simp) (notin _ _ (Or.inl (by decide)))]
    rfl
  · rw [if_neg t0] at ht
    by_cases t2 : (a, b) = ((2, 0) : tg_T)
    · rw [if_pos t2] at ht
      rw [t2, tg_ue]
      exact ht
    · rw [if_neg t2] at ht
      by_cases t1 : (a, b) = ((1, 0) : tg_T) ∨ (9 ≤ (a, b).1 ∧ (a, b).1 ≤ 12)
      · rw [if_pos t1] at ht
        have ha : a ≤ 12 := by
          rcases t1 with e | e
          · have := congrArg Prod.fst e
            dsimp only at this
            omega
          · exact e.2
        rw [thru _ t2 (fun e => by have := congrArg Prod.fst e; dsimp only at this; omega) (by dsimp only; omega) (notin _ _ (Or.inl (by omega)))]
        unfold hm_
        rw [if_neg t0, if_neg t2, if_pos t1]
        exact ht
      · rw [if_neg t1] at ht
        by_cases hc : (13 ≤ (a, b).1 ∧ (a, b).1 ≤ 26 ∧ (a, b).2 < k + 1) ∨ (27 ≤ (a, b).1 ∧ (a, b).1 ≤ 29 ∧ (a, b).2 / 16 < k + 1)
        · rw [if_pos hc] at ht
          dsimp only at hc
          by_cases hb : (a ≤ 26 ∧ b < k) ∨ (27 ≤ a ∧ b / 16 < k)
          · rw [thru _ t2 (fun e => by have e1 := congrArg Prod.fst e; have e2 := congrArg Prod.snd e; dsimp only at e1 e2; omega) (by dsimp only; omega) (notin _ _ (by omega))]
            unfold hm_
            rw [if_neg t0, if_neg t2, if_neg t1, if_pos (by dsimp only; omega)]
            exact ht
          · by_cases h27 : 27 ≤ a
            · have hq : b / 16 = k := by omega
              rw [tg_un t2, tg_un (fun e => by have := congrArg Prod.fst e; dsimp only at this; omega)]
              by_cases hn : b % 16 < 2 * m - 1
              · rw [if_pos (by dsimp only; omega)]
                exact ht
              · exfalso
                have hno : ¬ (b / 16 < m ∧ b % 16 < 2 * m - 1) := fun q => hn q.2
                have h3 : a = 27 ∨ a = 28 ∨ a = 29 := by omega
                rcases h3 with rfl | rfl | rfl
                · have g : c0_h ar B m (27, b) = none := if_neg hno
                  rw [g] at ht
                  cases ht
                · have g : c0_h ar B m (28, b) = none := if_neg hno
                  rw [g] at ht
                  cases ht
                · have g : c0_h ar B m (29, b) = none := if_neg hno
                  rw [g] at ht
                  cases ht
            · have hbk : b = k := by omega
              subst hbk
              rw [tg_un t2]
              by_cases h21 : a = 21
              · subst h21
                rw [tg_ue]
                have g : c0_h ar B m (21, b) = some (cs_rf ar 9 (2 * m - 1) (fun j => if j < 2 * m - 1 then some (fa B m (27, 16 * b + j)) else none)) := if_pos hk
                rw [g] at ht
                cases ht
                refine congrArg (fun x => some (cs_rf ar 9 (2 * m - 1) x)) (funext fun j => ?_)
                unfold ld_pr
                by_cases hj : j < 2 * m - 1
                · rw [if_pos hj, if_pos hj, (a27 j hj).1]
                · rw [if_neg hj, if_neg hj]
              · rw [tg_un (fun e => h21 (congrArg Prod.fst e)), if_neg (by dsimp only; omega)]
                have f1 : ∀ a' d, fa B m (a', b) = mb_ B m b + d → fa B m (a', b) = τ.1 + d := fun a' d e => by rw [e, h1]
                have f14 := f1 14 1 rfl
                have f15 := f1 15 2 rfl
                have f16 := f1 16 3 rfl
                have f17 := f1 17 4 rfl
                have f18 := f1 18 5 rfl
                have f19 := f1 19 6 rfl
                have f20 := f1 20 7 rfl
                have f22 := f1 22 8 rfl
                have f23 := f1 23 9 rfl
                have f24 := f1 24 10 rfl
                have f25 := f1 25 11 rfl
                have f26 := f1 26 12 rfl
                have h3 : a = 13 ∨ a = 14 ∨ a = 15 ∨ a = 16 ∨ a = 17 ∨ a = 18 ∨ a = 19 ∨ a = 20 ∨ a = 22 ∨ a = 23 ∨ a = 24 ∨ a = 25 ∨ a = 26 := by omega
                rcases h3 with rfl | rfl | rfl | rfl | rfl | rfl | rfl | rfl | rfl | rfl | rfl | rfl | rfl
                · have g : c0_h ar B m (13, b) = some (.inr (3, [.ref (fa B m (14, b)), .ref (fa B m (18, b)), .ref (fa B m (20, b))])) := if_pos hk
                  rw [g, f14, f18, f20] at ht
                  cases ht
                  exact tg_ups_mem (n := 3) _ _ ml_nd (by simp)
                · have g : c0_h ar B m (14, b) = some (.inr (1, [.ref (fa B m (15, b)), .ref (fa B m (16, b)), .ref (fa B m (17, b)), .int 0, .int 0, .int 0, .int 0, .int (-1)])) := if_pos hk
                  rw [g, f15, f16, f17] at ht
                  cases ht
                  exact tg_ups_mem (n := 8) _ _ ml_nd (by simp)
                · have g : c0_h ar B m (15, b) = some (w_ba ar 100 (fun _ => 0)) := if_pos hk
                  rw [g] at ht
                  cases ht
                  exact tg_ups_mem (n := 100) _ _ ml_nd (by simp)
                · have g : c0_h ar B m (16, b) = some (w_z ar 100) := if_pos hk
                  rw [g] at ht
                  cases ht
                  exact tg_ups_mem (n := 100) _ _ ml_nd (by simp)
                · have g : c0_h ar B m (17, b) = some (w_ia ar 104 (lg_mb ((1 <<< (nI m &&& 31)) - 1) 4)) := if_pos hk
                  rw [g] at ht
                  cases ht
                  exact tg_ups_mem (n := 104) _ _ ml_nd (by simp)
                · have g : c0_h ar B m (18, b) = some (.inr (8, [.ref (fa B m (19, b)), .int 0, .int 0])) := if_pos hk
                  rw [g, f19] at ht
                  cases ht
                  exact tg_ups_mem (n := 3) _ _ ml_nd (by simp)
                · have g : c0_h ar B m (19, b) = some (w_z ar 25) := if_pos hk
                  rw [g] at ht
                  cases ht
                  exact tg_ups_mem (n := 25) _ _ ml_nd (by simp)
                · have g : c0_h ar B m (20, b) = some (.inr (0, [.ref (fa B m (21, b)), .ref (fa B m (22, b)), .ref (fa B m (23, b)), .ref (fa B m (24, b)), .ref (fa B m (25, b)), .ref (fa B m (26, b)), .int 0, .int 0, .int 0, .int 0, .int 0, .int 0, .int 0])) := if_pos hk
                  rw [g, ad, f22, f23, f24, f25, f26] at ht
                  cases ht
                  exact tg_ups_mem (n := 13) _ _ ml_nd (by simp)
                · have g : c0_h ar B m (22, b) = some (w_ba ar 100 (fun _ => 0)) := if_pos hk
                  rw [g] at ht
                  cases ht
                  exact tg_ups_mem (n := 100) _ _ ml_nd (by simp)
                · have g : c0_h ar B m (23, b) = some (w_z ar 100) := if_pos hk
                  rw [g] at ht
                  cases ht
                  exact tg_ups_mem (n := 100) _ _ ml_nd (by simp)
                · have g : c0_h ar B m (24, b) = some (w_z ar 100) := if_pos hk
                  rw [g] at ht
                  cases ht
                  exact tg_ups_mem (n := 100) _ _ ml_nd (by simp)
                · have g : c0_h ar B m (25, b) = some (w_z ar 100) := if_pos hk
                  rw [g] at ht
                  cases ht
                  exact tg_ups_mem (n := 100) _ _ ml_nd (by simp)
                · have g : c0_h ar B m (26, b) = some (w_z ar 5) := if_pos hk
                  rw [g] at ht
                  cases ht
                  exact tg_ups_mem (n := 5) _ _ ml_nd (by simp)
        · rw [if_neg hc] at ht
          cases ht
end CS4
