section SM
variable {ar : Nat → ClassId} {A : tg_T → Nat} {B m : Nat} {σ : mj_S}
/-- class and reference answer alike: v, or the exception E that is told as k -/
def sm_R (ar : Nat → ClassId) (a B m kc kr : Nat) (as : List Value) (σ : mj_S) : Prop := ∃ (v : Int32) (τ : mj_S), mj_R (tb ar) kc (mj_en (tb ar) kc (.ref a :: as) σ) (.inl (some (.int v)), τ) ∧ τ.1 ≤ σ.1 + 20 ∧ τ.2.1 ≤ σ.2.1 + 1000 ∧ ∀ z q : Nat, ∃ s' : rs_S, s'.1 0 = 0 ∧ mj_R (tb ar) kr (mj_en (tb ar) kr (.ref B :: as) (rs_st ar B z q (rs_0 m))) (.inl (some (.int v)), rs_st ar B z q s')
def sm_X (ar : Nat → ClassId) (a B m kc kr : Nat) (as : List Value) (σ : mj_S) (E : String) (k : Int32) : Prop := mj_R (tb ar) kc (mj_en (tb ar) kc (.ref a :: as) σ) (.inr E, σ) ∧ ∀ z q : Nat, ∃ (s' : rs_S) (r : Int32), s'.1 0 = k ∧ mj_R (tb ar) kr (mj_en (tb ar) kr (.ref B :: as) (rs_st ar B z q (rs_0 m))) (.inl (some (.int r)), rs_st ar B z q s')
theorem wp_R {k : Nat} {f : mj_F} {o : Option Value ⊕ String} {τ : mj_S} (h : mj_wp (tb ar) k f (fun o' τ' => o' = o ∧ τ' = τ)) : mj_R (tb ar) k f (o, τ) := by
  obtain ⟨⟨o', τ'⟩, h1, h2, h3⟩ := h
  dsimp only at h2 h3
  subst h2
  subst h3
  exact h1
theorem sm_way {x : Int32} (h : tg_R A (cs_h ar A (cs_0 m)) σ) (hm : m = 2 ∨ m = 3 ∨ m = 4 ∨ m = 5) (kc kr : Nat) (as : List Value) (hc : mj_wp (tb ar) kc (mj_en (tb ar) kc (.ref (A (0, 0)) :: as) σ) (fun o' τ' => o' = .inr x_ix ∧ τ' = σ)) (s' : rs_S) (hs : s'.1 0 = 1) (hr : ∀ z q : Nat, mj_wp (tb ar) kr (mj_en (tb ar) kr (.ref B :: as) (rs_st ar B z q (rs_0 m))) (fun o' τ' => o' = .inl (some (.int x)) ∧ τ' = rs_st ar B z q s')) : sm_X ar (A (0, 0)) B m kc kr as σ x_ix 1 := ⟨wp_R hc, fun z q => ⟨s', x, hs, wp_R (hr z q)⟩⟩
theorem rs_e1 : (rs_0 m).1 1 = nI m := rfl
theorem rs_e2 : (rs_0 m).1 2 = nI (2 * m - 1) := rfl
theorem rs_in_w0 {v : Int32} : rs_in v 0 ((rs_0 m).1 28 - 1) = 0 := rs_in_w
theorem sm_deliver {v : Int32} (h : tg_R A (cs_h ar A (cs_0 m)) σ) (hm : m = 2 ∨ m = 3 ∨ m = 4 ∨ m = 5) : sm_X ar (A (0, 0)) B m 44 115 [.int v] σ x_ix 1 := sm_way h hm 44 115 _ ((C_deliver0 h c0_chkW).mpr ⟨rfl, rfl⟩) (rs_w (rs_0 m) 0 1) rfl (fun z q => (R_deliver0 rs_in_w0).mpr ⟨rfl, rfl⟩)
theorem sm_lose {v : Int32} (h : tg_R A (cs_h ar A (cs_0 m)) σ) (hm : m = 2 ∨ m = 3 ∨ m = 4 ∨ m = 5) : sm_X ar (A (0, 0)) B m 45 116 [.int v] σ x_ix 1 := sm_way h hm 45 116 _ ((C_lose0 h c0_chkW).mpr ⟨rfl, rfl⟩) (rs_w (rs_0 m) 0 1) rfl (fun z q => (R_lose0 rs_in_w0).mpr ⟨rfl, rfl⟩)
theorem sm_repeat {v : Int32} (h : tg_R A (cs_h ar A (cs_0 m)) σ) (hm : m = 2 ∨ m = 3 ∨ m = 4 ∨ m = 5) : sm_X ar (A (0, 0)) B m 46 117 [.int v] σ x_ix 1 := sm_way h hm 46 117 _ ((C_repeat0 h c0_chkW).mpr ⟨rfl, rfl⟩) (rs_w (rs_0 m) 0 1) rfl (fun z q => (R_repeat0 rs_in_w0).mpr ⟨rfl, rfl⟩)
theorem sm_message {v w : Int32} (h : tg_R A (cs_h ar A (cs_0 m)) σ) (hm : m = 2 ∨ m = 3 ∨ m = 4 ∨ m = 5) : sm_X ar (A (0, 0)) B m 51 130 [.int v, .int w] σ x_ix 1 := sm_way h hm 51 130 _ ((C_message0 h c0_chkW).mpr ⟨rfl, rfl⟩) (rs_w (rs_0 m) 0 1) rfl (fun z q => (R_message0 rs_in_w0).mpr ⟨rfl, rfl⟩)
theorem sm_decided {v w : Int32} (h : tg_R A (cs_h ar A (cs_0 m)) σ) (hm : m = 2 ∨ m = 3 ∨ m = 4 ∨ m = 5) : sm_X ar (A (0, 0)) B m 52 131 [.int v, .int w] σ x_ix 1 := sm_way h hm 52 131 _ ((K_decided (by omega) (by omega) h).mpr ⟨rfl, rfl⟩) (rs_w (rs_0 m) 0 1) rfl (fun z q => (R_decided0 (m := m) rfl (by omega) (fun _ => rfl)).mpr ⟨rfl, rfl⟩)
theorem sm_submit {v c : Int32} (h : tg_R A (cs_h ar A (cs_0 m)) σ) (hm : m = 2 ∨ m = 3 ∨ m = 4 ∨ m = 5) : sm_R ar (A (0, 0)) B m 42 110 [.int v, .int c] σ ∨ sm_X ar (A (0, 0)) B m 42 110 [.int v, .int c] σ x_ix 1 ∨ sm_X ar (A (0, 0)) B m 42 110 [.int v, .int c] σ x_ar 2 := by
  by_cases hv : rs_in v 0 (nI m - 1) = 1
  · obtain ⟨x, hx, rfl⟩ := rs_in_1 (by omega) hv
    by_cases hc : c < 1
    · refine Or.inr (Or.inr ⟨wp_R ((C_submit2 h (fun q => (c0_chkM (by omega) (by omega)).mp q hv) hc).mpr ⟨rfl, rfl⟩), fun z q => ⟨rs_w (rs_0 m) 0 2, 0, rfl, wp_R ((R_submit2 (s := rs_0 m) (by rw [rs_e1]; exact hv) hc).mpr ⟨rfl, rfl⟩)⟩⟩)
    · left
      have hw := C_submit0 (Q := fun o' τ' => o' = .inl (some (.int 1)) ∧ τ'.1 = σ.1 ∧ τ'.2.1 = σ.2.1) h (c0_B (by omega) (by omega)) (show x < (cs_0 m).1 from hx) hc rfl rfl (show ¬ (0 : Int32) = 2 by decide) rfl (fun τ hn _ => ⟨rfl, hn.1, hn.2⟩)
      obtain ⟨⟨o', τ'⟩, h1, h2, h3, h4⟩ := hw
      dsimp only at h2 h3 h4
      subst h2
      exact ⟨1, τ', h1, by omega, by omega, fun z q => ⟨_, rfl, wp_R ((R_submit0 (m := m) hx rfl (by omega) hc rfl rfl rfl (show ¬ (0 : Int32) = 2 by decide)).mpr ⟨rfl, rfl⟩)⟩⟩
  · have h0 := rs_in_n.mp hv
    exact Or.inr (Or.inl ⟨wp_R ((C_submit1 h ((c0_chkM (by omega) (by omega)).mpr hv)).mpr ⟨rfl, rfl⟩), fun z q => ⟨rs_w (rs_0 m) 0 1, 0, rfl, wp_R ((R_submit1 (s := rs_0 m) (by rw [rs_e1]; exact h0)).mpr ⟨rfl, rfl⟩)⟩⟩)
theorem sm_campaign {v : Int32} (h : tg_R A (cs_h ar A (cs_0 m)) σ) (hm : m = 2 ∨ m = 3 ∨ m = 4 ∨ m = 5) : sm_R ar (A (0, 0)) B m 43 111 [.int v] σ ∨ sm_X ar (A (0, 0)) B m 43 111 [.int v] σ x_ix 1 := by
  by_cases hv : rs_in v 0 (nI m - 1) = 1
  · obtain ⟨x, hx, rfl⟩ := rs_in_1 (by omega) hv
    left
    have hw := K_campaign0 (Q := fun o' τ' => o' = .inl (some (.int (nI (8 + x)))) ∧ τ'.1 = σ.1 + m + 4 ∧ τ'.2.1 = σ.2.1 + 7 * m + 211) hm hx h (fun τ h1 h2 => ⟨rfl, h1, h2⟩)
    obtain ⟨⟨o', τ'⟩, h1, h2, h3, h4⟩ := hw
    dsimp only at h2 h3 h4
    subst h2
    refine ⟨nI (8 + x), τ', h1, by omega, by omega, fun z q => ?_⟩
    have hr := R_campaign0 (ar := ar) (B := B) (z := z) (q := q) (Q := fun o' τ' => o' = .inl (some (.int (nI (8 + x)))) ∧ ∃ s' : rs_S, s'.1 0 = 0 ∧ τ' = rs_st ar B z q s') hm hx (fun s' h0 => ⟨rfl, s', h0, rfl⟩)
    obtain ⟨⟨o2, τ2⟩, r1, r2, s', r3, r4⟩ := hr
    dsimp only at r2 r4
    subst r2
    subst r4
    exact ⟨s', r3, r1⟩
  · have h0 := rs_in_n.mp hv
    exact Or.inr ⟨wp_R ((K_campaign1 h ((c0_chkM (by omega) (by omega)).mpr hv)).mpr ⟨rfl, rfl⟩), fun z q => ⟨rs_w (rs_0 m) 0 1, 0, rfl, wp_R ((R_campaign1 (s := rs_0 m) (by rw [rs_e1]; exact h0)).mpr ⟨rfl, rfl⟩)⟩⟩
theorem sm_run {v : Int32} (h : tg_R A (cs_h ar A (cs_0 m)) σ) (hm : m = 2 ∨ m = 3 ∨ m = 4 ∨ m = 5) : sm_R ar (A (0, 0)) B m 48 127 [.int v] σ ∨ sm_X ar (A (0, 0)) B m 48 127 [.int v] σ x_ar 1 := by
  have hc := fun Q => C_run0 (Q := Q) (v := v) h (c0_B (by omega) (by omega)) rfl (fun _ _ => rfl)
  have hr := fun z q Q => R_run0 (ar := ar) (B := B) (z := z) (q := q) (s := rs_0 m) (Q := Q) (m := m) (v := v) rfl (by omega) rfl rfl (fun _ _ => rfl)
  rcases rs_in_or (v := v) (a := 1) (b := 50) with hv | hv
  · right
    rw [hv] at hc hr
    exact ⟨wp_R ((hc _).mpr ⟨rfl, rfl⟩), fun z q => ⟨rs_w (rs_0 m) 0 1, 0, rfl, wp_R ((hr z q _).mpr ⟨rfl, rfl⟩)⟩⟩
  · left
    rw [hv] at hc hr
    exact ⟨0, σ, wp_R ((hc _).mpr ⟨rfl, rfl⟩), by omega, by omega, fun z q => ⟨rs_w (rs_0 m) 0 0, rfl, wp_R ((hr z q _).mpr ⟨rfl, rfl⟩)⟩⟩
theorem sm_crash {v b : Int32} (hb : b = 0 ∨ b = 1) (h : tg_R A (cs_h ar A (cs_0 m)) σ) (hm : m = 2 ∨ m = 3 ∨ m = 4 ∨ m = 5) : sm_R ar (A (0, 0)) B m 49 128 [.int v, .int b] σ ∨ sm_X ar (A (0, 0)) B m 49 128 [.int v, .int b] σ x_ix 1 := by
  by_cases hv : rs_in v 0 (nI (2 * m - 1) - 1) = 1
  · obtain ⟨x, hx, rfl⟩ := rs_in_1 (by omega) hv
    left
    have hw := C_crash (Q := fun o' τ' => o' = .inl (some (.int 0)) ∧ τ'.1 = σ.1 ∧ τ'.2.1 = σ.2.1) (b := b) h (c0_B (by omega) (by omega)) (show x < 2 * (cs_0 m).1 - 1 from hx) hb (fun τ hn _ => ⟨rfl, hn.1, hn.2⟩)
    obtain ⟨⟨o', τ'⟩, h1, h2, h3, h4⟩ := hw
    dsimp only at h2 h3 h4
    subst h2
    refine ⟨0, τ', h1, by omega, by omega, fun z q => ?_⟩
    have hr := (R_crash (ar := ar) (B := B) (z := z) (q := q) (s := rs_0 m) (Q := fun o' τ' => o' = .inl (some (.int 0)) ∧ τ' = rs_st ar B z q (rs_crash (rs_w (rs_0 m) 0 0) x m b)) hx rfl rfl (by omega) hb).mpr ⟨rfl, rfl⟩
    refine ⟨rs_crash (rs_w (rs_0 m) 0 0) x m b, ?_, wp_R hr⟩
    unfold rs_crash
    split <;> rfl
  · have h0 := rs_in_n.mp hv
    exact Or.inr ⟨wp_R ((C_crash0 h ((c0_chkN (by omega) (by omega)).mpr hv)).mpr ⟨rfl, rfl⟩), fun z q => ⟨rs_w (rs_0 m) 0 1, 0, rfl, wp_R ((R_crash0 (s := rs_0 m) (by rw [rs_e2]; exact h0)).mpr ⟨rfl, rfl⟩)⟩⟩
theorem sm_about {v w : Int32} (h : tg_R A (cs_h ar A (cs_0 m)) σ) (hm : m = 2 ∨ m = 3 ∨ m = 4 ∨ m = 5) : sm_R ar (A (0, 0)) B m 53 132 [.int v, .int w] σ ∨ sm_X ar (A (0, 0)) B m 53 132 [.int v, .int w] σ x_ix 1 := by
  have hc := fun Q => K_about (Q := Q) (v := v) (w := w) (by omega) (by omega) h
  have hr := fun z q Q => R_about0 (ar := ar) (B := B) (z := z) (q := q) (s := rs_0 m) (Q := Q) (m := m) (v := v) (w := w) rfl rfl (by omega) (fun _ _ => rfl)
  have e2 : (rs_0 m).1 2 = nI (2 * m - 1) := rfl
  by_cases hv : rs_in v 0 (nI (2 * m - 1) - 1) = 1 ∧ rs_in w 0 8 = 1
  · left
    refine ⟨0, σ, wp_R ((hc _).mpr ?_), by omega, by omega, fun z q => ⟨rs_w (rs_0 m) 0 0, rfl, wp_R ((hr z q _).mpr ?_)⟩⟩
    · rw [if_pos hv]; exact ⟨rfl, rfl⟩
    · rw [e2, if_pos hv]; exact ⟨rfl, rfl⟩
  · right
    refine ⟨wp_R ((hc _).mpr ?_), fun z q => ⟨rs_w (rs_0 m) 0 1, 0, rfl, wp_R ((hr z q _).mpr ?_)⟩⟩
    · rw [if_neg hv]; exact ⟨rfl, rfl⟩
    · rw [e2, if_neg hv]; exact ⟨rfl, rfl⟩
theorem sm_accepted {v w u : Int32} (h : tg_R A (cs_h ar A (cs_0 m)) σ) (hm : m = 2 ∨ m = 3 ∨ m = 4 ∨ m = 5) : sm_R ar (A (0, 0)) B m 54 133 [.int v, .int w, .int u] σ ∨ sm_X ar (A (0, 0)) B m 54 133 [.int v, .int w, .int u] σ x_ix 1 := by
  have hc := fun Q => K_accepted (Q := Q) (v := v) (w := w) (u := u) (by omega) (by omega) h
  have hr := fun z q Q => R_accepted0 (ar := ar) (B := B) (z := z) (q := q) (s := rs_0 m) (Q := Q) (m := m) (v := v) (w := w) (u := u) rfl (by omega) (fun _ => rfl) (fun _ => rfl)
  have e2 : (rs_0 m).1 2 = nI (2 * m - 1) := rfl
  by_cases hv : rs_in v 0 (nI (2 * m - 1) - 1) = 1 ∧ rs_in w 0 99 = 1 ∧ rs_in u 0 1 = 1
  · left
    refine ⟨0, σ, wp_R ((hc _).mpr ?_), by omega, by omega, fun z q => ⟨rs_w (rs_0 m) 0 0, rfl, wp_R ((hr z q _).mpr ?_)⟩⟩
    · rw [if_pos hv]; exact ⟨rfl, rfl⟩
    · rw [e2, if_pos hv]; exact ⟨rfl, rfl⟩
  · right
    refine ⟨wp_R ((hc _).mpr ?_), fun z q => ⟨rs_w (rs_0 m) 0 1, 0, rfl, wp_R ((hr z q _).mpr ?_)⟩⟩
    · rw [if_neg hv]; exact ⟨rfl, rfl⟩
    · rw [e2, if_neg hv]; exact ⟨rfl, rfl⟩
theorem sm_members {v w : Int32} (h : tg_R A (cs_h ar A (cs_0 m)) σ) (hm : m = 2 ∨ m = 3 ∨ m = 4 ∨ m = 5) : sm_R ar (A (0, 0)) B m 55 134 [.int v, .int w] σ ∨ sm_X ar (A (0, 0)) B m 55 134 [.int v, .int w] σ x_ix 1 := by
  have hc := fun Q => K_members (Q := Q) (v := v) (w := w) (by omega) (by omega) h
  have hr := fun z q Q => R_members0 (ar := ar) (B := B) (z := z) (q := q) (s := rs_0 m) (Q := Q) (m := m) (v := v) (w := w) rfl (by omega) (fun _ => rfl)
  have e1 : (rs_0 m).1 1 = nI m := rfl
  by_cases hv : rs_in v 0 (nI m - 1) = 1 ∧ rs_in w 0 3 = 1
  · left
    refine ⟨((1 : Int32) <<< (nI m &&& 31)) - 1, σ, wp_R ((hc _).mpr ?_), by omega, by omega, fun z q => ⟨rs_w (rs_0 m) 0 0, rfl, wp_R ((hr z q _).mpr ?_)⟩⟩
    · rw [if_pos hv]; exact ⟨rfl, rfl⟩
    · rw [e1, if_pos hv, if_pos hv]; exact ⟨rfl, rfl⟩
  · right
    refine ⟨wp_R ((hc _).mpr ?_), fun z q => ⟨rs_w (rs_0 m) 0 1, 0, rfl, wp_R ((hr z q _).mpr ?_)⟩⟩
    · rw [if_neg hv]; exact ⟨rfl, rfl⟩
    · rw [e1, if_neg hv, if_neg hv]; exact ⟨rfl, rfl⟩
end SM
