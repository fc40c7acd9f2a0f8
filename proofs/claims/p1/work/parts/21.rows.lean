section MJB
variable {Θ : mj_T} {k : Nat} {pc : Nat} {L : List (Option Value)} {st : List Value} {σ : mj_S} {Q : (Option Value ⊕ String) → mj_S → Prop}
/-- a field's value: object a of class c, slot j -/
def mj_fld (σ : mj_S) (a c j : Nat) : Option Value := match σ.2.2 a with
  | some (.inr (cj, fs)) => if cj = c then fs[j]? else none
  | _ => none
/-- a field is set -/
def mj_sf (σ : mj_S) (a j : Nat) (v : Value) : mj_S := match σ.2.2 a with
  | some (.inr (c, fs)) => mj_up σ a (.inr (c, fs.set j v))
  | _ => σ
/-- what a step comes to -/
def mj_Wo (Θ : mj_T) (k : Nat) (σ : mj_S) (o : Option mj_O) (Q : (Option Value ⊕ String) → mj_S → Prop) : Prop := match o with
  | none => False
  | some (.inl f') => mj_wp Θ k f' Q
  | some (.inr (.inl v)) => Q (.inl v) σ
  | some (.inr (.inr (.inl E))) => Q (.inr E) σ
  | some (.inr (.inr (.inr (y, as, g)))) => as.length ≤ mj_mL Θ y ∧ mj_wp Θ y (mj_en Θ y as g.2.2.2) (mj_bk Θ k y g.1 g.2.1 g.2.2.1 Q)
theorem mj_Wo_iff (Θ : mj_T) (k : Nat) (f : mj_F) : mj_wp Θ k f Q ↔ mj_Wo Θ k f.2.2.2 (mj_st Θ k f) Q := by
  cases h : mj_st Θ k f with
  | none =>
    constructor
    · rintro ⟨r, h1, -⟩
      rw [mj_R_iff, h] at h1
      exact h1
    · intro h1
      exact h1.elim
  | some o =>
    rcases o with f' | v | E | ⟨y, as, g⟩
    · exact wp_next h
    · exact wp_ret h
    · exact wp_thr h
    · constructor
      · intro hw
        have hl : as.length ≤ mj_mL Θ y := by
          obtain ⟨r, h1, -⟩ := hw
          rw [mj_R_iff, h] at h1
          exact h1.1
        exact ⟨hl, (wp_call h hl).mp hw⟩
      · rintro ⟨hl, hw⟩
        exact (wp_call h hl).mpr hw
theorem wo_none : mj_Wo Θ k σ none Q ↔ False := Iff.rfl
theorem wo_nx {f : mj_F} : mj_Wo Θ k σ (some (.inl f)) Q ↔ mj_wp Θ k f Q := Iff.rfl
theorem wo_ret {v : Option Value} : mj_Wo Θ k σ (some (.inr (.inl v))) Q ↔ Q (.inl v) σ := Iff.rfl
theorem wo_thr {E : String} : mj_Wo Θ k σ (some (.inr (.inr (.inl E)))) Q ↔ Q (.inr E) σ := Iff.rfl
theorem wo_ite {c : Prop} {hc : Decidable c} {a b : Option mj_O} : mj_Wo Θ k σ (if c then a else b) Q ↔ if c then mj_Wo Θ k σ a Q else mj_Wo Θ k σ b Q := by
  by_cases h : c
  · rw [if_pos h, if_pos h]
  · rw [if_neg h, if_neg h]
theorem mj_row {i : Instr} {len : Nat} {o : Option mj_O} (hd : decode (mj_cc Θ k) pc = .ok (i, len)) (ho : mj_i Θ k i len pc L st σ = o) : mj_wp Θ k (pc, L, st, σ) Q ↔ mj_Wo Θ k σ o Q := by
  rw [mj_Wo_iff, wp_at hd, ho]
def mj_gf (c j q : Nat) (L : List (Option Value)) (st : List Value) (σ : mj_S) : Option mj_O := match st with
  | .ref a :: r => match mj_fld σ a c j with
    | some v => mj_nx (q, L, v :: r, σ)
    | none => none
  | _ => none
theorem mj_get_eq {ix c j q : Nat} {fin : Bool} (h : mj_fl Θ (mj_o Θ k) ix = some (c, j, fin)) : mj_get Θ k ix q L st σ = mj_gf c j q L st σ := by
  cases st with
  | nil => rfl
  | cons v r =>
    cases v with
    | ref a =>
      simp only [mj_get, mj_gf, mj_fld, h]
      cases hs : σ.2.2 a with
      | none => rfl
      | some x =>
        cases x with
        | inl y => rfl
        | inr z =>
          obtain ⟨cj, fs⟩ := z
          dsimp only
          by_cases hc : cj = c
          · rw [if_pos hc, if_pos hc]; cases fs[j]? <;> rfl
          · rw [if_neg hc, if_neg hc]
    | _ => rfl
theorem wo_call {y : Nat} {as : List Value} {g : mj_F} : mj_Wo Θ k σ (some (.inr (.inr (.inr (y, as, g))))) Q ↔ as.length ≤ mj_mL Θ y ∧ mj_wp Θ y (mj_en Θ y as g.2.2.2) (mj_bk Θ k y g.1 g.2.1 g.2.2.1 Q) := Iff.rfl
theorem bk_inl {y : Nat} {v : Option Value} {τ : mj_S} : mj_bk Θ k y pc L st Q (.inl v) τ ↔ mj_wp Θ k (pc, L, v.toList ++ st, τ) Q := Iff.rfl
theorem bk_inr {y : Nat} {E : String} {τ : mj_S} : mj_bk Θ k y pc L st Q (.inr E) τ ↔ mj_kd Θ y = 0 ∧ Q (.inr E) τ := Iff.rfl
def mj_inc (j : Nat) (n : Int32) (q : Nat) (L : List (Option Value)) (st : List Value) (σ : mj_S) : Option mj_O := match L[j]? with
  | some (some (.int x)) => mj_nx (q, L.set j (some (.int (x + n))), st, σ)
  | _ => none
def mj_dup (q : Nat) (L : List (Option Value)) (st : List Value) (σ : mj_S) : Option mj_O := match st with
  | .int x :: r => mj_nx (q, L, .int x :: .int x :: r, σ)
  | .ref x :: r => mj_nx (q, L, .ref x :: .ref x :: r, σ)
  | _ => none
def mj_dup2 (q : Nat) (L : List (Option Value)) (st : List Value) (σ : mj_S) : Option mj_O := match st with
  | .int y :: .int x :: r => mj_nx (q, L, .int y :: .int x :: .int y :: .int x :: r, σ)
  | .int y :: .ref x :: r => mj_nx (q, L, .int y :: .ref x :: .int y :: .ref x :: r, σ)
  | _ => none
def mj_pop (q : Nat) (L : List (Option Value)) (st : List Value) (σ : mj_S) : Option mj_O := match st with
  | .int _ :: r => mj_nx (q, L, r, σ)
  | .ref _ :: r => mj_nx (q, L, r, σ)
  | .null :: r => mj_nx (q, L, r, σ)
  | _ => none
def mj_br1 (c : ClassFile.Cond) (t q : Nat) (L : List (Option Value)) (st : List Value) (σ : mj_S) : Option mj_O := match st with
  | .int x :: r => if mj_iif c x 0 = true then mj_nx (t, L, r, σ) else mj_nx (q, L, r, σ)
  | _ => none
def mj_br2 (c : ClassFile.Cond) (t q : Nat) (L : List (Option Value)) (st : List Value) (σ : mj_S) : Option mj_O := match st with
  | .int y :: .int x :: r => if mj_iif c x y = true then mj_nx (t, L, r, σ) else mj_nx (q, L, r, σ)
  | _ => none
/-- null goes to t, an object to q -/
def mj_brn (t q : Nat) (L : List (Option Value)) (st : List Value) (σ : mj_S) : Option mj_O := match st with
  | .null :: r => mj_nx (t, L, r, σ)
  | .ref _ :: r => mj_nx (q, L, r, σ)
  | _ => none
def mj_sw (d : Nat) (lo hi : Int) (ts : List Nat) (L : List (Option Value)) (st : List Value) (σ : mj_S) : Option mj_O := match st with
  | .int x :: r => if x.toInt < lo ∨ hi < x.toInt then mj_nx (d, L, r, σ) else (match ts[(x.toInt - lo).toNat]? with
    | some t => mj_nx (t, L, r, σ)
    | none => none)
  | _ => none
theorem mj_sw_eq {len d : Nat} {dflt lo hi : Int} {offs : Array Int} {ts : List Nat} (hd : (pc : Int) + dflt = (d : Int)) (ht : offs.toList.map (fun o => (pc : Int) + o) = ts.map (fun t : Nat => (t : Int))) : mj_i Θ k (.tableswitch dflt lo hi offs) len pc L st σ = mj_sw d lo hi ts L st σ := by
  have jj : ∀ (o : Int) (t : Nat) (r : List Value), (pc : Int) + o = (t : Int) → mj_j pc o L r σ = mj_nx (t, L, r, σ) := by
    intro o t r h
    unfold mj_j
    rw [if_pos (by omega), h]
    simp
  cases st with
  | nil => rfl
  | cons v r =>
    cases v with
    | int x =>
      simp only [mj_i, mj_sw]
      by_cases hc : x.toInt < lo ∨ hi < x.toInt
      · rw [if_pos hc, if_pos hc]
        exact jj _ _ r hd
      · rw [if_neg hc, if_neg hc]
        have h1 := congrArg (fun l => l[(x.toInt - lo).toNat]?) ht
        simp only [List.getElem?_map, Array.getElem?_toList] at h1
        cases ho : offs[(x.toInt - lo).toNat]? with
        | none =>
          rw [ho] at h1
          cases hts : ts[(x.toInt - lo).toNat]? with
          | none => rfl
          | some t => rw [hts] at h1; cases h1
        | some o =>
          rw [ho] at h1
          cases hts : ts[(x.toInt - lo).toNat]? with
          | none => rw [hts] at h1; cases h1
          | some t =>
            rw [hts] at h1
            exact jj o t r (Option.some.inj h1)
    | _ => rfl
def mj_pf (c j : Nat) (ty : FieldType) (q : Nat) (L : List (Option Value)) (st : List Value) (σ : mj_S) : Option mj_O := match st with
  | v :: .ref a :: r => if (mj_fld σ a c j).isSome = true ∧ mj_fit (some ty) v = true then mj_nx (q, L, r, mj_sf σ a j v) else none
  | _ => none
theorem mj_put_eq {ix c j q : Nat} {fin : Bool} {ty : FieldType} (h : mj_fl Θ (mj_o Θ k) ix = some (c, j, fin)) (ht : (mj_ty Θ c)[j]? = some ty) (hf : fin = false ∨ (mj_kd Θ k = 2 ∧ c = mj_o Θ k)) : mj_put Θ k ix q L st σ = mj_pf c j ty q L st σ := by
  cases st with
  | nil => rfl
  | cons v r =>
    cases r with
    | nil => rfl
    | cons w r =>
      cases w with
      | ref a =>
        cases hs : σ.2.2 a with
        | none =>
          have f1 : mj_fld σ a c j = none := by simp [mj_fld, hs]
          simp [mj_put, mj_pf, h, hs, f1]
        | some x =>
          cases x with
          | inl y =>
            have f1 : mj_fld σ a c j = none := by simp [mj_fld, hs]
            simp [mj_put, mj_pf, h, hs, f1]
          | inr z =>
            obtain ⟨cj, fs⟩ := z
            have f1 : mj_fld σ a c j = if cj = c then fs[j]? else none := by simp [mj_fld, hs]
            have f2 : mj_sf σ a j v = mj_up σ a (.inr (cj, fs.set j v)) := by simp [mj_sf, hs]
            by_cases hc : cj = c
            · subst hc
              rw [if_pos rfl] at f1
              by_cases hj : j < fs.length
              · have f3 : (fs[j]?).isSome = true := by simp [hj]
                simp [mj_put, mj_pf, h, hs, f1, f2, f3, ht, hj, hf]
              · have f3 : (fs[j]?).isSome = false := by simp [Nat.not_lt.mp hj]
                simp [mj_put, mj_pf, h, hs, f1, f3, hj]
            · rw [if_neg hc] at f1
              simp [mj_put, mj_pf, h, hs, f1, hc]
      | _ => rfl
/-- an array of ints (t = 0) or booleans (t = 1): its length and contents -/
def mj_ia (Θ : mj_T) (σ : mj_S) (a t : Nat) : Option (Nat × (Nat → Int32)) := match σ.2.2 a with
  | some (.inl (cA, n, .inl f)) => if cA = mj_ar Θ t then some (n, f) else none
  | _ => none
def mj_sa (σ : mj_S) (a i : Nat) (x : Int32) : mj_S := match σ.2.2 a with
  | some (.inl (cA, n, .inl f)) => mj_up σ a (.inl (cA, n, .inl (upd f i x)))
  | _ => σ
def mj_il (Θ : mj_T) (t q : Nat) (L : List (Option Value)) (st : List Value) (σ : mj_S) : Option mj_O := match st with
  | .int i :: .ref a :: r => match mj_ia Θ σ a t with
    | some (n, f) => if mj_ix i n = true then mj_nx (q, L, .int (f i.toNatClampNeg) :: r, σ) else none
    | none => none
  | _ => none
theorem mj_il_eq {t q : Nat} : mj_iald Θ t q L st σ = mj_il Θ t q L st σ := by
  have key : ∀ (i : Int32) (a : Nat) (r : List Value), mj_iald Θ t q L (.int i :: .ref a :: r) σ = mj_il Θ t q L (.int i :: .ref a :: r) σ := by
    intro i a r
    simp only [mj_iald, mj_il, mj_ia]
    generalize σ.2.2 a = z
    rcases z with _ | ⟨cA, n, f | f | f | f | f⟩ | ⟨cj, fs⟩
    · rfl
    · dsimp only
      by_cases hc : cA = mj_ar Θ t
      · simp [hc]
      · simp [hc]
    all_goals rfl
  rcases st with _ | ⟨v, _ | ⟨w, r⟩⟩
  · rfl
  · cases v <;> rfl
  · cases v <;> cases w <;> first | rfl | exact key _ _ _
def mj_is (Θ : mj_T) (q : Nat) (L : List (Option Value)) (st : List Value) (σ : mj_S) : Option mj_O := match st with
  | .int x :: .int i :: .ref a :: r => match mj_ia Θ σ a 0 with
    | some (n, _) => if mj_ix i n = true then mj_nx (q, L, r, mj_sa σ a i.toNatClampNeg x) else none
    | none => none
  | _ => none
theorem mj_is_eq {q : Nat} : mj_iast Θ q L st σ = mj_is Θ q L st σ := by
  have key : ∀ (x i : Int32) (a : Nat) (r : List Value), mj_iast Θ q L (.int x :: .int i :: .ref a :: r) σ = mj_is Θ q L (.int x :: .int i :: .ref a :: r) σ := by
    intro x i a r
    simp only [mj_iast, mj_is, mj_ia, mj_sa]
    cases hs : σ.2.2 a with
    | none => rfl
    | some z =>
      rcases z with ⟨cA, n, f | f | f | f | f⟩ | ⟨cj, fs⟩
      · dsimp only
        by_cases hc : cA = mj_ar Θ 0
        · simp [hc]
        · simp [hc]
      all_goals rfl
  rcases st with _ | ⟨u, _ | ⟨v, _ | ⟨w, r⟩⟩⟩
  · rfl
  · cases u <;> rfl
  · cases u <;> cases v <;> rfl
  · cases u <;> cases v <;> cases w <;> first | rfl | exact key _ _ _ _
def mj_zs (Θ : mj_T) (q : Nat) (L : List (Option Value)) (st : List Value) (σ : mj_S) : Option mj_O := match st with
  | .int x :: .int i :: .ref a :: r => match mj_ia Θ σ a 1 with
    | some (n, _) => if mj_ix i n = true ∧ (x = 0 ∨ x = 1) then mj_nx (q, L, r, mj_sa σ a i.toNatClampNeg x) else none
    | none => none
  | _ => none
theorem mj_zs_eq {q : Nat} : mj_zast Θ q L st σ = mj_zs Θ q L st σ := by
  have key : ∀ (x i : Int32) (a : Nat) (r : List Value), mj_zast Θ q L (.int x :: .int i :: .ref a :: r) σ = mj_zs Θ q L (.int x :: .int i :: .ref a :: r) σ := by
    intro x i a r
    simp only [mj_zast, mj_zs, mj_ia, mj_sa]
    cases hs : σ.2.2 a with
    | none => rfl
    | some z =>
      rcases z with ⟨cA, n, f | f | f | f | f⟩ | ⟨cj, fs⟩
      · dsimp only
        by_cases hc : cA = mj_ar Θ 1
        · simp [hc]
        · simp [hc]
      all_goals rfl
  rcases st with _ | ⟨u, _ | ⟨v, _ | ⟨w, r⟩⟩⟩
  · rfl
  · cases u <;> rfl
  · cases u <;> cases v <;> rfl
  · cases u <;> cases v <;> cases w <;> first | rfl | exact key _ _ _ _
/-- a call whose tables are looked up: na arguments; the receiver's class is o -/
def mj_cls (σ : mj_S) (a : Nat) : Option Nat := match σ.2.2 a with
  | some (.inr (c, _)) => some c
  | _ => none
def mj_rc (d o : Nat) (as : List Value) (σ : mj_S) : Bool := match d with
  | 0 => match as with
    | .ref b :: _ => decide (mj_cls σ b = some o)
    | _ => false
  | 1 => true
  | 2 => match as with
    | .ref _ :: _ => true
    | _ => false
  | _ => false
def mj_k2 (d o y na q : Nat) (L : List (Option Value)) (st : List Value) (σ : mj_S) : Option mj_O :=
  if na ≤ st.length ∧ (st.map fun v => v.category) = st.map (fun _ => 1) ∧ st.length ≤ na + 8 ∧ mj_rc d o (st.take na).reverse σ = true then
    some (.inr (.inr (.inr (y, (st.take na).reverse, (q, L, st.drop na, σ))))) else none
theorem mj_rc_eq {d y o : Nat} {as : List Value} (ho : mj_o Θ y = o) : mj_rcv Θ d y as σ = mj_rc d o as σ := by
  subst ho
  unfold mj_rcv mj_rc mj_cls
  match d with
  | 0 =>
    cases as with
    | nil => rfl
    | cons v r =>
      cases v with
      | ref b =>
        dsimp only
        cases hs : σ.2.2 b with
        | none => simp
        | some x =>
          cases x with
          | inl z => simp
          | inr z => simp
      | _ => rfl
  | 1 => rfl
  | 2 => rfl
  | n + 3 => rfl
theorem mj_call_eq {d y o na q : Nat} (h1 : y < 900) (h2 : mj_kd Θ y = d) (h3 : mj_na Θ y = na) (ho : mj_o Θ y = o) (h4 : mj_fr Θ y + 1 ≤ mj_fr Θ k) (h5 : 8 + (mj_mL Θ y + 11) + mj_lo Θ y ≤ mj_lo Θ k) : mj_call Θ d k y q L st σ = mj_k2 d o y na q L st σ := by
  unfold mj_call mj_k2
  rw [mj_rc_eq ho, h3]
  simp only [h1, h2, h4, h5, true_and]
/-- Object's constructor -/
def mj_oi (q : Nat) (L : List (Option Value)) (st : List Value) (σ : mj_S) : Option mj_O := match st with
  | .ref _ :: r => if (r.map fun v => v.category) = r.map (fun _ => 1) ∧ r.length ≤ 8 then mj_nx (q, L, r, σ) else none
  | _ => none
theorem mj_oi_eq {ix : Nat} (h : mj_ml Θ (mj_o Θ k) ix = some 998) (h1 : 1 ≤ mj_fr Θ k) (h2 : 20 ≤ mj_lo Θ k) : mj_i Θ k (.invokespecial ix) 3 pc L st σ = mj_oi (pc + 3) L st σ := by
  simp only [mj_i, h, if_true, mj_oi]
  cases st with
  | nil => rfl
  | cons v r => cases v <;> simp [h1, h2]
theorem mj_v_eq {ix y o na : Nat} (h : mj_ml Θ (mj_o Θ k) ix = some y) (h1 : y < 900) (h2 : mj_kd Θ y = 0) (h3 : mj_na Θ y = na) (ho : mj_o Θ y = o) (h4 : mj_fr Θ y + 1 ≤ mj_fr Θ k) (h5 : 8 + (mj_mL Θ y + 11) + mj_lo Θ y ≤ mj_lo Θ k) : mj_i Θ k (.invokevirtual ix) 3 pc L st σ = mj_k2 0 o y na (pc + 3) L st σ := by
  simp only [mj_i, h, if_true]
  exact mj_call_eq h1 h2 h3 ho h4 h5
theorem mj_s_eq {ix y o na : Nat} (h : mj_ml Θ (mj_o Θ k) ix = some y) (h1 : y < 900) (h2 : mj_kd Θ y = 1) (h3 : mj_na Θ y = na) (ho : mj_o Θ y = o) (h4 : mj_fr Θ y + 1 ≤ mj_fr Θ k) (h5 : 8 + (mj_mL Θ y + 11) + mj_lo Θ y ≤ mj_lo Θ k) : mj_i Θ k (.invokestatic ix) 3 pc L st σ = mj_k2 1 o y na (pc + 3) L st σ := by
  simp only [mj_i, h, if_true]
  split
  · next e => cases e; omega
  · next e => cases e; omega
  · next e => cases e; omega
  · next y' _ _ _ e => cases e; exact mj_call_eq h1 h2 h3 ho h4 h5
  · next e => cases e
theorem mj_p_eq {ix y o na : Nat} (h : mj_ml Θ (mj_o Θ k) ix = some y) (h1 : y < 900) (h2 : mj_kd Θ y = 2) (h3 : mj_na Θ y = na) (ho : mj_o Θ y = o) (h4 : mj_fr Θ y + 1 ≤ mj_fr Θ k) (h5 : 8 + (mj_mL Θ y + 11) + mj_lo Θ y ≤ mj_lo Θ k) : mj_i Θ k (.invokespecial ix) 3 pc L st σ = mj_k2 2 o y na (pc + 3) L st σ := by
  simp only [mj_i, h, if_true]
  split
  · next e => cases e; omega
  · next y' _ e => cases e; exact mj_call_eq h1 h2 h3 ho h4 h5
  · next e => cases e
theorem mj_cp_eq {ix : Nat} (h : mj_ml Θ (mj_o Θ k) ix = some 999) (h1 : 1 ≤ mj_fr Θ k) (h2 : 100 ≤ mj_lo Θ k) : mj_i Θ k (.invokestatic ix) 3 pc L st σ = mj_cpy Θ (pc + 3) L st σ := by
  simp only [mj_i, h, if_true, h1, h2, and_self]
theorem mj_mx_eq {ix : Nat} (h : mj_ml Θ (mj_o Θ k) ix = some 997) (h1 : 1 ≤ mj_fr Θ k) (h2 : 30 ≤ mj_lo Θ k) : mj_i Θ k (.invokestatic ix) 3 pc L st σ = mj_mm (fun x y => if x < y then y else x) (pc + 3) L st σ := by
  simp only [mj_i, h, if_true, h1, h2, and_self]
theorem mj_mn_eq {ix : Nat} (h : mj_ml Θ (mj_o Θ k) ix = some 996) (h1 : 1 ≤ mj_fr Θ k) (h2 : 30 ≤ mj_lo Θ k) : mj_i Θ k (.invokestatic ix) 3 pc L st σ = mj_mm (fun x y => if y < x then y else x) (pc + 3) L st σ := by
  simp only [mj_i, h, if_true, h1, h2, and_self]
def mj_th (E : String) (st : List Value) : Option mj_O := match st with
  | [] => some (.inr (.inr (.inl E)))
  | _ => none
def mj_ir (st : List Value) : Option mj_O := match st with
  | [.int x] => some (.inr (.inl (some (.int x))))
  | _ => none
def mj_zr (st : List Value) : Option mj_O := match st with
  | [.int x] => if decide (x = 0 ∨ x = 1) = true then some (.inr (.inl (some (.int x)))) else none
  | _ => none
def mj_rr (st : List Value) : Option mj_O := match st with
  | [.ref a] => some (.inr (.inl (some (.ref a))))
  | [.null] => some (.inr (.inl (some .null)))
  | _ => none
def mj_vr (st : List Value) : Option mj_O := match st with
  | [] => some (.inr (.inl none))
  | _ => none
theorem mj_ir_eq (h : mj_rt Θ k = some .int) : mj_i Θ k .ireturn 1 pc L st σ = mj_ir st := by
  simp only [mj_i, h, mj_fit, if_true]
  rfl
theorem mj_zr_eq (h : mj_rt Θ k = some .boolean) : mj_i Θ k .ireturn 1 pc L st σ = mj_zr st := by
  simp only [mj_i, h, mj_fit, if_true]
  rfl
theorem mj_rr_eq {C : String} (h : mj_rt Θ k = some (.object C)) : mj_i Θ k .areturn 1 pc L st σ = mj_rr st := by
  simp only [mj_i, h, mj_fit, if_true]
  rfl
theorem mj_vr_eq (h : mj_rt Θ k = none) : mj_i Θ k .return_ 1 pc L st σ = mj_vr st := by
  simp only [mj_i, h, if_true]
  rfl
end MJB
