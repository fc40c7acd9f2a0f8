section CT
variable {ar : Nat → ClassId} {A : tg_T → Nat} {H : tg_T → Option va_E} {σ : mj_S} {t : tg_T} {e : va_E} {Q : (Option Value ⊕ String) → mj_S → Prop}
def tg_ups (H : tg_T → Option va_E) (l : List (tg_T × Nat × va_E)) : tg_T → Option va_E := l.foldl (fun H p => tg_up H p.1 p.2.2) H
theorem tg_ups_not : ∀ (l : List (tg_T × Nat × va_E)) (H : tg_T → Option va_E), (∀ p ∈ l, p.1 ≠ t) → tg_ups H l t = H t
  | [], _, _ => rfl
  | p :: l, H, h => by
    have h1 : tg_ups H (p :: l) = tg_ups (tg_up H p.1 p.2.2) l := rfl
    rw [h1, tg_ups_not l _ (fun q hq => h q (List.mem_cons_of_mem _ hq)), tg_un (fun q => h p List.mem_cons_self q.symm)]
theorem tg_ups_mem {n : Nat} : ∀ (l : List (tg_T × Nat × va_E)) (H : tg_T → Option va_E), (l.map Prod.fst).Nodup → (t, n, e) ∈ l → tg_ups H l t = some e
  | [], _, _, h => by cases h
  | p :: l, H, hn, h => by
    have h1 : tg_ups H (p :: l) = tg_ups (tg_up H p.1 p.2.2) l := rfl
    rw [List.map_cons, List.nodup_cons] at hn
    rw [h1]
    rcases List.mem_cons.mp h with h2 | h2
    · subst h2
      rw [tg_ups_not (t := t) l _ (fun q hq he => hn.1 (show t ∈ List.map Prod.fst l from he ▸ List.mem_map_of_mem hq))]
      exact tg_ue
    · exact tg_ups_mem l _ hn.2 h2
theorem tg_adsR : ∀ (l : List (tg_T × Nat × va_E)) (H : tg_T → Option va_E) (σ : mj_S), tg_R A H σ → (∀ p ∈ l, H p.1 = none) → (l.map Prod.fst).Nodup → (∀ (i : Nat) (p : tg_T × Nat × va_E), l[i]? = some p → A p.1 = σ.1 + i) → tg_R A (tg_ups H l) (mj_ads σ (l.map Prod.snd))
  | [], _, _, h, _, _, _ => h
  | p :: l, H, σ, h, h0, hn, hA => by
    have h1 : tg_ups H (p :: l) = tg_ups (tg_up H p.1 p.2.2) l := rfl
    have h2 : mj_ads σ ((p :: l).map Prod.snd) = mj_ads (mj_add σ p.2.1 p.2.2) (l.map Prod.snd) := rfl
    rw [List.map_cons, List.nodup_cons] at hn
    rw [h1, h2]
    refine tg_adsR l _ _ (tg_newf h (h0 p List.mem_cons_self) (by have := hA 0 p rfl; rw [this]; rfl) _ _) (fun q hq => ?_) hn.2 (fun i q hq => ?_)
    · rw [tg_un (fun e => hn.1 (by rw [← e]; exact List.mem_map_of_mem hq))]
      exact h0 q (List.mem_cons_of_mem _ hq)
    · have := hA (i + 1) q hq
      rw [this, add_1]
      omega
/-- the layout of a fresh object: the object at B, m mains -/
def fa (B m : Nat) (t : tg_T) : Nat :=
  let n := 2 * m - 1
  let C := B + 2 + 4 * n
  let D := C + 1 + m * (14 + 3 * n)
  match t.1 with
  | 0 => B
  | 1 => B + 1
  | 2 => C
  | 3 => D
  | 4 => D + 1
  | 5 => D + 2
  | 6 => D + 3
  | 7 => D + 4
  | 8 => D + 5
  | 9 => B + 2 + 4 * t.2
  | 10 => B + 3 + 4 * t.2
  | 11 => B + 4 + 4 * t.2
  | 12 => B + 5 + 4 * t.2
  | 13 => C + 1 + t.2 * (14 + 3 * n)
  | 14 => C + 1 + t.2 * (14 + 3 * n) + 1
  | 15 => C + 1 + t.2 * (14 + 3 * n) + 2
  | 16 => C + 1 + t.2 * (14 + 3 * n) + 3
  | 17 => C + 1 + t.2 * (14 + 3 * n) + 4
  | 18 => C + 1 + t.2 * (14 + 3 * n) + 5
  | 19 => C + 1 + t.2 * (14 + 3 * n) + 6
  | 20 => C + 1 + t.2 * (14 + 3 * n) + 7
  | 22 => C + 1 + t.2 * (14 + 3 * n) + 8
  | 23 => C + 1 + t.2 * (14 + 3 * n) + 9
  | 24 => C + 1 + t.2 * (14 + 3 * n) + 10
  | 25 => C + 1 + t.2 * (14 + 3 * n) + 11
  | 26 => C + 1 + t.2 * (14 + 3 * n) + 12
  | 21 => C + 1 + t.2 * (14 + 3 * n) + 13
  | 27 => C + 1 + t.2 / 16 * (14 + 3 * n) + 14 + 3 * (t.2 % 16)
  | 28 => C + 1 + t.2 / 16 * (14 + 3 * n) + 15 + 3 * (t.2 % 16)
  | 29 => C + 1 + t.2 / 16 * (14 + 3 * n) + 16 + 3 * (t.2 % 16)
  | _ => 0
/-- a fresh state of m mains -/
def c0_v (m : Nat) (k _ j : Nat) : Int32 := match k with
  | 0 => if j = 0 then nI m else if j = 1 then nI (2 * m - 1) else if j = 2 then (1 <<< (nI (2 * m - 1) &&& 31)) - (1 <<< (nI m &&& 31)) else 0
  | 14 => if j = 7 then -1 else 0
  | 17 => lg_mb ((1 <<< (nI m &&& 31)) - 1) 4 j
  | _ => 0
def cs_0 (m : Nat) : cs_S := (m, 0, fun _ => false, fun _ _ => none, c0_v m)
abbrev c0_h (ar : Nat → ClassId) (B m : Nat) : tg_T → Option va_E := cs_h ar (fa B m) (cs_0 m)
theorem cs_m0 {A : tg_T → Nat} : cs_m A (fun _ => none) = fun _ => none := rfl
/-- the rows of promises of main i -/
theorem T_rows {G : tg_T → Option va_E} {i n : Nat} (hn : n ≤ 9) (h : tg_R A H σ) (hA : ∀ j, j < n → A (27, 16 * i + j) = σ.1 + 3 * j ∧ A (28, 16 * i + j) = σ.1 + 3 * j + 1 ∧ A (29, 16 * i + j) = σ.1 + 3 * j + 2) (hH : ∀ k j, 27 ≤ k → k ≤ 29 → j < n → H (k, 16 * i + j) = none) (hG : ∀ j, j < n → G (27, 16 * i + j) = some (w_rw (σ.1 + 3 * j + 1) (σ.1 + 3 * j + 2)) ∧ G (28, 16 * i + j) = some (w_z ar 100) ∧ G (29, 16 * i + j) = some (w_z ar 100)) : ∀ k, k ≤ n → tg_R A (fun t => if (27 ≤ t.1 ∧ t.1 ≤ 29) ∧ t.2 / 16 = i ∧ t.2 % 16 < k then G t else H t) (ld_ad ar σ k)
  | 0, _ => tg_eq h (by funext t; exact if_neg (by omega))
  | k + 1, hk => by
    have ih := T_rows hn h hA hH hG k (by omega)
    have h1 := ld_1 (ar := ar) (σ := σ) k
    obtain ⟨a1, a2, a3⟩ := hA k (by omega)
    obtain ⟨g1, g2, g3⟩ := hG k (by omega)
    have q := tg_adsR (A := A) [((27, 16 * i + k), 4, w_rw (σ.1 + 3 * k + 1) (σ.1 + 3 * k + 2)), ((28, 16 * i + k), 100, w_z ar 100), ((29, 16 * i + k), 100, w_z ar 100)] _ _ ih (by
      intro p hp
      have hz : ∀ k', 27 ≤ k' → k' ≤ 29 → (if (27 ≤ (k', 16 * i + k).1 ∧ (k', 16 * i + k).1 ≤ 29) ∧ (k', 16 * i + k).2 / 16 = i ∧ (k', 16 * i + k).2 % 16 < k then G (k', 16 * i + k) else H (k', 16 * i + k)) = none := by
        intro k' hk1 hk2
        rw [if_neg (by dsimp only; omega)]
        exact hH k' k hk1 hk2 (by omega)
      simp only [List.mem_cons, List.not_mem_nil, or_false] at hp
      rcases hp with rfl | rfl | rfl
      · exact hz 27 (by omega) (by omega)
      · exact hz 28 (by omega) (by omega)
      · exact hz 29 (by omega) (by omega)) (by simp) (by
      intro j p hj
      rw [h1]
      match j, hj with
      | 0, hj => cases hj; rw [a1]; omega
      | 1, hj => cases hj; rw [a2]
      | 2, hj => cases hj; rw [a3]
      | j + 3, hj => simp at hj)
    refine tg_sub q ?_
    intro t e ht
    by_cases hc : (27 ≤ t.1 ∧ t.1 ≤ 29) ∧ t.2 / 16 = i ∧ t.2 % 16 < k + 1
    · rw [if_pos hc] at ht
      by_cases hk2 : t.2 % 16 = k
      · obtain ⟨kk, x⟩ := t
        dsimp only at hc hk2
        have hx : x = 16 * i + k := by omega
        subst hx
        have h3 : kk = 27 ∨ kk = 28 ∨ kk = 29 := by omega
        rcases h3 with rfl | rfl | rfl
        · rw [g1] at ht
          cases ht
          exact tg_ups_mem (n := 4) _ _ (by simp) (by simp)
        · rw [g2] at ht
          cases ht
          exact tg_ups_mem (n := 100) _ _ (by simp) (by simp)
        · rw [g3] at ht
          cases ht
          exact tg_ups_mem (n := 100) _ _ (by simp) (by simp)
      · rw [tg_ups_not _ _ (by
          intro p hp e
          simp only [List.mem_cons, List.not_mem_nil, or_false] at hp
          rcases hp with rfl | rfl | rfl <;> (dsimp only at e; subst e; dsimp only at hk2; omega)), if_pos (by omega)]
        exact ht
    · rw [if_neg hc] at ht
      rw [tg_ups_not _ _ (by
          intro p hp e
          simp only [List.mem_cons, List.not_mem_nil, or_false] at hp
          rcases hp with rfl | rfl | rfl <;> (dsimp only at e; subst e; dsimp only at hc; omega)), if_neg (by omega)]
      exact ht
end CT
