/-! The reference's state: the object's ints by their slots, the arrays by their places behind the object (1 crashed, 2 promised, 3 low, 4 acceptedBallot, 5 acceptedCommand, 6 hasLog, 7 log, 8 known, 9 waiting, 10 waits, 11 came, 12 role, 13 ballot, 14 ticks, 15 promisers, 16 promiseLow, 17 promiseBallot, 18 promiseCommand, 19 proposed, 20 proposal, 21 takers, 22 slotTicks, 23 told, 24 forgotten, 25 askedSpares, 26 order, 27 ownOrder, 28 used, 29 from, 30 to, 31 kind, 32 withBallot, 33 withSlot, 34 withCommand, 35 tableBallot, 36 tableCommand; ints: 0 thrown, 1 m, 2 nodes, 28 way, 30 own, 41 lost). -/
abbrev rs_S : Type := (Nat → Int32) × (Nat → Nat → Int32)
def rs_ob (B : Nat) (w : Nat → Int32) : va_E := .inr (10, [.int (w 0), .int (w 1), .int (w 2), .ref (B + 1), .ref (B + 2), .ref (B + 3), .ref (B + 4), .ref (B + 5), .ref (B + 6), .ref (B + 7), .ref (B + 8), .ref (B + 9), .ref (B + 10), .ref (B + 11), .ref (B + 12), .ref (B + 13), .ref (B + 14), .ref (B + 15), .ref (B + 16), .ref (B + 17), .ref (B + 18), .ref (B + 19), .ref (B + 20), .ref (B + 21), .ref (B + 22), .ref (B + 23), .ref (B + 24), .ref (B + 25), .int (w 28), .ref (B + 26), .int (w 30), .ref (B + 27), .ref (B + 28), .ref (B + 29), .ref (B + 30), .ref (B + 31), .ref (B + 32), .ref (B + 33), .ref (B + 34), .ref (B + 35), .ref (B + 36), .int (w 41)])
def rs_ar (ar : Nat → ClassId) (f : Nat → Int32) : Nat → Option va_E
  | 1 => some (w_ba ar 9 f)
  | 2 => some (w_ia ar 9 f)
  | 3 => some (w_ia ar 9 f)
  | 4 => some (w_ia ar 900 f)
  | 5 => some (w_ia ar 900 f)
  | 6 => some (w_ba ar 500 f)
  | 7 => some (w_ia ar 500 f)
  | 8 => some (w_ia ar 5 f)
  | 9 => some (w_ia ar 5 f)
  | 10 => some (w_ia ar 320 f)
  | 11 => some (w_ia ar 9 f)
  | 12 => some (w_ia ar 5 f)
  | 13 => some (w_ia ar 5 f)
  | 14 => some (w_ia ar 5 f)
  | 15 => some (w_ia ar 5 f)
  | 16 => some (w_ia ar 45 f)
  | 17 => some (w_ia ar 4500 f)
  | 18 => some (w_ia ar 4500 f)
  | 19 => some (w_ba ar 500 f)
  | 20 => some (w_ia ar 500 f)
  | 21 => some (w_ia ar 500 f)
  | 22 => some (w_ia ar 500 f)
  | 23 => some (w_ia ar 45 f)
  | 24 => some (w_ia ar 5 f)
  | 25 => some (w_ia ar 5 f)
  | 26 => some (w_ia ar 300 f)
  | 27 => some (w_ia ar 110 f)
  | 28 => some (w_ba ar 420 f)
  | 29 => some (w_ia ar 420 f)
  | 30 => some (w_ia ar 420 f)
  | 31 => some (w_ia ar 420 f)
  | 32 => some (w_ia ar 420 f)
  | 33 => some (w_ia ar 420 f)
  | 34 => some (w_ia ar 420 f)
  | 35 => some (w_ia ar 42000 f)
  | 36 => some (w_ia ar 42000 f)
  | _ => none
def rs_c (ar : Nat → ClassId) (B : Nat) (s : rs_S) (t : Nat) : Option va_E := if t = 0 then some (rs_ob B s.1) else rs_ar ar (s.2 t) t
/-- the store that holds the state s alone, the object at B; z the next address, q the slots made -/
def rs_st (ar : Nat → ClassId) (B z q : Nat) (s : rs_S) : mj_S := (z, q, fun a => if a < B then none else rs_c ar B s (a - B))
/-- array t's contents are f; the object's int j is x -/
def rs_u (s : rs_S) (t : Nat) (f : Nat → Int32) : rs_S := (s.1, fun t' => if t' = t then f else s.2 t')
def rs_w (s : rs_S) (j : Nat) (x : Int32) : rs_S := (upd s.1 j x, s.2)
section RS
variable {ar : Nat → ClassId} {B z q : Nat} {s : rs_S} {e : va_E}
theorem rs_u1 {t : Nat} {f : Nat → Int32} : (rs_u s t f).1 = s.1 := rfl
theorem rs_u2 {t u : Nat} {f : Nat → Int32} : (rs_u s t f).2 u = if u = t then f else s.2 u := rfl
theorem rs_w1 {j i : Nat} {x : Int32} : (rs_w s j x).1 i = if i = j then x else s.1 i := rfl
theorem rs_w2 {j : Nat} {x : Int32} : (rs_w s j x).2 = s.2 := rfl
theorem rs_uu {t : Nat} {f g : Nat → Int32} : rs_u (rs_u s t f) t g = rs_u s t g := by
  unfold rs_u
  refine congrArg (Prod.mk s.1) (funext fun u => ?_)
  dsimp only
  by_cases h : u = t
  · rw [if_pos h, if_pos h]
  · rw [if_neg h, if_neg h, if_neg h]
theorem rs_us {t : Nat} : rs_u s t (s.2 t) = s := by
  unfold rs_u
  refine congrArg (Prod.mk s.1) (funext fun u => ?_)
  by_cases h : u = t
  · rw [if_pos h, h]
  · rw [if_neg h]
theorem rs_at (t : Nat) : (rs_st ar B z q s).2.2 (B + t) = rs_c ar B s t := by
  show (if B + t < B then none else rs_c ar B s (B + t - B)) = _
  rw [if_neg (by omega), Nat.add_sub_cancel_left]
theorem rs_at0 : (rs_st ar B z q s).2.2 B = some (rs_ob B s.1) := rs_at 0
theorem rs_seta {t : Nat} {f : Nat → Int32} (ht : 0 < t) (he : rs_ar ar f t = some e) : mj_up (rs_st ar B z q s) (B + t) e = rs_st ar B z q (rs_u s t f) := by
  unfold mj_up rs_st
  refine congrArg (fun x => (z, q, x)) (funext fun a => ?_)
  dsimp only
  by_cases h : a = B + t
  · rw [if_pos h, h, if_neg (by omega), Nat.add_sub_cancel_left]
    unfold rs_c
    rw [if_neg (by omega), rs_u2, if_pos rfl, he]
  · rw [if_neg h]
    by_cases h2 : a < B
    · rw [if_pos h2, if_pos h2]
    · rw [if_neg h2, if_neg h2]
      have h3 : ¬ a - B = t := by omega
      show (if a - B = 0 then some (rs_ob B s.1) else rs_ar ar (s.2 (a - B)) (a - B)) = if a - B = 0 then some (rs_ob B s.1) else rs_ar ar (if a - B = t then f else s.2 (a - B)) (a - B)
      rw [if_neg h3]
theorem rs_seto {w : Nat → Int32} : mj_up (rs_st ar B z q s) B (rs_ob B w) = rs_st ar B z q (w, s.2) := by
  unfold mj_up rs_st
  refine congrArg (fun x => (z, q, x)) (funext fun a => ?_)
  dsimp only
  by_cases h : a = B
  · rw [if_pos h, h, if_neg (by omega), Nat.sub_self]
    rfl
  · rw [if_neg h]
    by_cases h2 : a < B
    · rw [if_pos h2, if_pos h2]
    · rw [if_neg h2, if_neg h2]
      unfold rs_c
      rw [if_neg (by omega), if_neg (by omega)]
theorem rs_cls : mj_cls (rs_st ar B z q s) B = some 10 := by
  unfold mj_cls
  rw [rs_at0]
  rfl
theorem rs_fq {j : Nat} {v : Value} (h : (match rs_ob B s.1 with | .inr (_, fs) => fs[j]? | _ => none) = some v) : mj_fld (rs_st ar B z q s) B 10 j = some v := by
  unfold mj_fld
  rw [rs_at0]
  exact h
theorem rs_iq {t n c : Nat} {f : Nat → Int32} (ht : 0 < t) (h : rs_ar ar (s.2 t) t = some (.inl (ar c, n, .inl f))) (hc : mj_ar (tb ar) c = ar c) : mj_ia (tb ar) (rs_st ar B z q s) (B + t) c = some (n, f) := by
  unfold mj_ia
  rw [rs_at, rs_c, if_neg (by omega), h]
  exact if_pos hc.symm
theorem rs_aq {t n c i : Nat} {x : Int32} (ht : 0 < t) (h : ∀ f, rs_ar ar f t = some (.inl (ar c, n, .inl f))) : mj_sa (rs_st ar B z q s) (B + t) i x = rs_st ar B z q (rs_u s t (upd (s.2 t) i x)) := by
  unfold mj_sa
  rw [rs_at, rs_c, if_neg (by omega), h]
  exact rs_seta ht (h _)
theorem rs_wq {j : Nat} {x : Int32} (h : (match rs_ob B s.1 with | .inr (c, fs) => (Sum.inr (c, fs.set j (.int x)) : va_E) | _ => rs_ob B s.1) = rs_ob B (upd s.1 j x)) : mj_sf (rs_st ar B z q s) B j (.int x) = rs_st ar B z q (rs_w s j x) := by
  unfold mj_sf
  rw [rs_at0]
  exact (congrArg (mj_up (rs_st ar B z q s) B) h).trans rs_seto
theorem rs_f0 : mj_fld (rs_st ar B z q s) B 10 0 = some (.int (s.1 0)) := rs_fq rfl
theorem rs_f1 : mj_fld (rs_st ar B z q s) B 10 1 = some (.int (s.1 1)) := rs_fq rfl
theorem rs_f2 : mj_fld (rs_st ar B z q s) B 10 2 = some (.int (s.1 2)) := rs_fq rfl
theorem rs_f3 : mj_fld (rs_st ar B z q s) B 10 3 = some (.ref (B + 1)) := rs_fq rfl
theorem rs_f4 : mj_fld (rs_st ar B z q s) B 10 4 = some (.ref (B + 2)) := rs_fq rfl
theorem rs_f5 : mj_fld (rs_st ar B z q s) B 10 5 = some (.ref (B + 3)) := rs_fq rfl
theorem rs_f6 : mj_fld (rs_st ar B z q s) B 10 6 = some (.ref (B + 4)) := rs_fq rfl
theorem rs_f7 : mj_fld (rs_st ar B z q s) B 10 7 = some (.ref (B + 5)) := rs_fq rfl
theorem rs_f8 : mj_fld (rs_st ar B z q s) B 10 8 = some (.ref (B + 6)) := rs_fq rfl
theorem rs_f9 : mj_fld (rs_st ar B z q s) B 10 9 = some (.ref (B + 7)) := rs_fq rfl
theorem rs_f10 : mj_fld (rs_st ar B z q s) B 10 10 = some (.ref (B + 8)) := rs_fq rfl
theorem rs_f11 : mj_fld (rs_st ar B z q s) B 10 11 = some (.ref (B + 9)) := rs_fq rfl
theorem rs_f12 : mj_fld (rs_st ar B z q s) B 10 12 = some (.ref (B + 10)) := rs_fq rfl
theorem rs_f13 : mj_fld (rs_st ar B z q s) B 10 13 = some (.ref (B + 11)) := rs_fq rfl
theorem rs_f14 : mj_fld (rs_st ar B z q s) B 10 14 = some (.ref (B + 12)) := rs_fq rfl
theorem rs_f15 : mj_fld (rs_st ar B z q s) B 10 15 = some (.ref (B + 13)) := rs_fq rfl
theorem rs_f16 : mj_fld (rs_st ar B z q s) B 10 16 = some (.ref (B + 14)) := rs_fq rfl
theorem rs_f17 : mj_fld (rs_st ar B z q s) B 10 17 = some (.ref (B + 15)) := rs_fq rfl
theorem rs_f18 : mj_fld (rs_st ar B z q s) B 10 18 = some (.ref (B + 16)) := rs_fq rfl
theorem rs_f19 : mj_fld (rs_st ar B z q s) B 10 19 = some (.ref (B + 17)) := rs_fq rfl
theorem rs_f20 : mj_fld (rs_st ar B z q s) B 10 20 = some (.ref (B + 18)) := rs_fq rfl
theorem rs_f21 : mj_fld (rs_st ar B z q s) B 10 21 = some (.ref (B + 19)) := rs_fq rfl
theorem rs_f22 : mj_fld (rs_st ar B z q s) B 10 22 = some (.ref (B + 20)) := rs_fq rfl
theorem rs_f23 : mj_fld (rs_st ar B z q s) B 10 23 = some (.ref (B + 21)) := rs_fq rfl
theorem rs_f24 : mj_fld (rs_st ar B z q s) B 10 24 = some (.ref (B + 22)) := rs_fq rfl
theorem rs_f25 : mj_fld (rs_st ar B z q s) B 10 25 = some (.ref (B + 23)) := rs_fq rfl
theorem rs_f26 : mj_fld (rs_st ar B z q s) B 10 26 = some (.ref (B + 24)) := rs_fq rfl
theorem rs_f27 : mj_fld (rs_st ar B z q s) B 10 27 = some (.ref (B + 25)) := rs_fq rfl
theorem rs_f28 : mj_fld (rs_st ar B z q s) B 10 28 = some (.int (s.1 28)) := rs_fq rfl
theorem rs_f29 : mj_fld (rs_st ar B z q s) B 10 29 = some (.ref (B + 26)) := rs_fq rfl
theorem rs_f30 : mj_fld (rs_st ar B z q s) B 10 30 = some (.int (s.1 30)) := rs_fq rfl
theorem rs_f31 : mj_fld (rs_st ar B z q s) B 10 31 = some (.ref (B + 27)) := rs_fq rfl
theorem rs_f32 : mj_fld (rs_st ar B z q s) B 10 32 = some (.ref (B + 28)) := rs_fq rfl
theorem rs_f33 : mj_fld (rs_st ar B z q s) B 10 33 = some (.ref (B + 29)) := rs_fq rfl
theorem rs_f34 : mj_fld (rs_st ar B z q s) B 10 34 = some (.ref (B + 30)) := rs_fq rfl
theorem rs_f35 : mj_fld (rs_st ar B z q s) B 10 35 = some (.ref (B + 31)) := rs_fq rfl
theorem rs_f36 : mj_fld (rs_st ar B z q s) B 10 36 = some (.ref (B + 32)) := rs_fq rfl
theorem rs_f37 : mj_fld (rs_st ar B z q s) B 10 37 = some (.ref (B + 33)) := rs_fq rfl
theorem rs_f38 : mj_fld (rs_st ar B z q s) B 10 38 = some (.ref (B + 34)) := rs_fq rfl
theorem rs_f39 : mj_fld (rs_st ar B z q s) B 10 39 = some (.ref (B + 35)) := rs_fq rfl
theorem rs_f40 : mj_fld (rs_st ar B z q s) B 10 40 = some (.ref (B + 36)) := rs_fq rfl
theorem rs_f41 : mj_fld (rs_st ar B z q s) B 10 41 = some (.int (s.1 41)) := rs_fq rfl
theorem rs_i1 : mj_ia (tb ar) (rs_st ar B z q s) (B + 1) 1 = some (9, s.2 1) := rs_iq (by decide) rfl rfl
theorem rs_a1 {i : Nat} {x : Int32} : mj_sa (rs_st ar B z q s) (B + 1) i x = rs_st ar B z q (rs_u s 1 (upd (s.2 1) i x)) := rs_aq (c := 1) (n := 9) (by decide) (fun _ => rfl)
theorem rs_i2 : mj_ia (tb ar) (rs_st ar B z q s) (B + 2) 0 = some (9, s.2 2) := rs_iq (by decide) rfl rfl
theorem rs_a2 {i : Nat} {x : Int32} : mj_sa (rs_st ar B z q s) (B + 2) i x = rs_st ar B z q (rs_u s 2 (upd (s.2 2) i x)) := rs_aq (c := 0) (n := 9) (by decide) (fun _ => rfl)
theorem rs_i3 : mj_ia (tb ar) (rs_st ar B z q s) (B + 3) 0 = some (9, s.2 3) := rs_iq (by decide) rfl rfl
theorem rs_a3 {i : Nat} {x : Int32} : mj_sa (rs_st ar B z q s) (B + 3) i x = rs_st ar B z q (rs_u s 3 (upd (s.2 3) i x)) := rs_aq (c := 0) (n := 9) (by decide) (fun _ => rfl)
theorem rs_i4 : mj_ia (tb ar) (rs_st ar B z q s) (B + 4) 0 = some (900, s.2 4) := rs_iq (by decide) rfl rfl
theorem rs_a4 {i : Nat} {x : Int32} : mj_sa (rs_st ar B z q s) (B + 4) i x = rs_st ar B z q (rs_u s 4 (upd (s.2 4) i x)) := rs_aq (c := 0) (n := 900) (by decide) (fun _ => rfl)
theorem rs_i5 : mj_ia (tb ar) (rs_st ar B z q s) (B + 5) 0 = some (900, s.2 5) := rs_iq (by decide) rfl rfl
theorem rs_a5 {i : Nat} {x : Int32} : mj_sa (rs_st ar B z q s) (B + 5) i x = rs_st ar B z q (rs_u s 5 (upd (s.2 5) i x)) := rs_aq (c := 0) (n := 900) (by decide) (fun _ => rfl)
theorem rs_i6 : mj_ia (tb ar) (rs_st ar B z q s) (B + 6) 1 = some (500, s.2 6) := rs_iq (by decide) rfl rfl
theorem rs_a6 {i : Nat} {x : Int32} : mj_sa (rs_st ar B z q s) (B + 6) i x = rs_st ar B z q (rs_u s 6 (upd (s.2 6) i x)) := rs_aq (c := 1) (n := 500) (by decide) (fun _ => rfl)
theorem rs_i7 : mj_ia (tb ar) (rs_st ar B z q s) (B + 7) 0 = some (500, s.2 7) := rs_iq (by decide) rfl rfl
theorem rs_a7 {i : Nat} {x : Int32} : mj_sa (rs_st ar B z q s) (B + 7) i x = rs_st ar B z q (rs_u s 7 (upd (s.2 7) i x)) := rs_aq (c := 0) (n := 500) (by decide) (fun _ => rfl)
theorem rs_i8 : mj_ia (tb ar) (rs_st ar B z q s) (B + 8) 0 = some (5, s.2 8) := rs_iq (by decide) rfl rfl
theorem rs_a8 {i : Nat} {x : Int32} : mj_sa (rs_st ar B z q s) (B + 8) i x = rs_st ar B z q (rs_u s 8 (upd (s.2 8) i x)) := rs_aq (c := 0) (n := 5) (by decide) (fun _ => rfl)
theorem rs_i9 : mj_ia (tb ar) (rs_st ar B z q s) (B + 9) 0 = some (5, s.2 9) := rs_iq (by decide) rfl rfl
theorem rs_a9 {i : Nat} {x : Int32} : mj_sa (rs_st ar B z q s) (B + 9) i x = rs_st ar B z q (rs_u s 9 (upd (s.2 9) i x)) := rs_aq (c := 0) (n := 5) (by decide) (fun _ => rfl)
theorem rs_i10 : mj_ia (tb ar) (rs_st ar B z q s) (B + 10) 0 = some (320, s.2 10) := rs_iq (by decide) rfl rfl
theorem rs_a10 {i : Nat} {x : Int32} : mj_sa (rs_st ar B z q s) (B + 10) i x = rs_st ar B z q (rs_u s 10 (upd (s.2 10) i x)) := rs_aq (c := 0) (n := 320) (by decide) (fun _ => rfl)
theorem rs_i11 : mj_ia (tb ar) (rs_st ar B z q s) (B + 11) 0 = some (9, s.2 11) := rs_iq (by decide) rfl rfl
theorem rs_a11 {i : Nat} {x : Int32} : mj_sa (rs_st ar B z q s) (B + 11) i x = rs_st ar B z q (rs_u s 11 (upd (s.2 11) i x)) := rs_aq (c := 0) (n := 9) (by decide) (fun _ => rfl)
theorem rs_i12 : mj_ia (tb ar) (rs_st ar B z q s) (B + 12) 0 = some (5, s.2 12) := rs_iq (by decide) rfl rfl
theorem rs_a12 {i : Nat} {x : Int32} : mj_sa (rs_st ar B z q s) (B + 12) i x = rs_st ar B z q (rs_u s 12 (upd (s.2 12) i x)) := rs_aq (c := 0) (n := 5) (by decide) (fun _ => rfl)
theorem rs_i13 : mj_ia (tb ar) (rs_st ar B z q s) (B + 13) 0 = some (5, s.2 13) := rs_iq (by decide) rfl rfl
theorem rs_a13 {i : Nat} {x : Int32} : mj_sa (rs_st ar B z q s) (B + 13) i x = rs_st ar B z q (rs_u s 13 (upd (s.2 13) i x)) := rs_aq (c := 0) (n := 5) (by decide) (fun _ => rfl)
theorem rs_i14 : mj_ia (tb ar) (rs_st ar B z q s) (B + 14) 0 = some (5, s.2 14) := rs_iq (by decide) rfl rfl
theorem rs_a14 {i : Nat} {x : Int32} : mj_sa (rs_st ar B z q s) (B + 14) i x = rs_st ar B z q (rs_u s 14 (upd (s.2 14) i x)) := rs_aq (c := 0) (n := 5) (by decide) (fun _ => rfl)
theorem rs_i15 : mj_ia (tb ar) (rs_st ar B z q s) (B + 15) 0 = some (5, s.2 15) := rs_iq (by decide) rfl rfl
theorem rs_a15 {i : Nat} {x : Int32} : mj_sa (rs_st ar B z q s) (B + 15) i x = rs_st ar B z q (rs_u s 15 (upd (s.2 15) i x)) := rs_aq (c := 0) (n := 5) (by decide) (fun _ => rfl)
theorem rs_i16 : mj_ia (tb ar) (rs_st ar B z q s) (B + 16) 0 = some (45, s.2 16) := rs_iq (by decide) rfl rfl
theorem rs_a16 {i : Nat} {x : Int32} : mj_sa (rs_st ar B z q s) (B + 16) i x = rs_st ar B z q (rs_u s 16 (upd (s.2 16) i x)) := rs_aq (c := 0) (n := 45) (by decide) (fun _ => rfl)
theorem rs_i17 : mj_ia (tb ar) (rs_st ar B z q s) (B + 17) 0 = some (4500, s.2 17) := rs_iq (by decide) rfl rfl
theorem rs_a17 {i : Nat} {x : Int32} : mj_sa (rs_st ar B z q s) (B + 17) i x = rs_st ar B z q (rs_u s 17 (upd (s.2 17) i x)) := rs_aq (c := 0) (n := 4500) (by decide) (fun _ => rfl)
theorem rs_i18 : mj_ia (tb ar) (rs_st ar B z q s) (B + 18) 0 = some (4500, s.2 18) := rs_iq (by decide) rfl rfl
theorem rs_a18 {i : Nat} {x : Int32} : mj_sa (rs_st ar B z q s) (B + 18) i x = rs_st ar B z q (rs_u s 18 (upd (s.2 18) i x)) := rs_aq (c := 0) (n := 4500) (by decide) (fun _ => rfl)
theorem rs_i19 : mj_ia (tb ar) (rs_st ar B z q s) (B + 19) 1 = some (500, s.2 19) := rs_iq (by decide) rfl rfl
theorem rs_a19 {i : Nat} {x : Int32} : mj_sa (rs_st ar B z q s) (B + 19) i x = rs_st ar B z q (rs_u s 19 (upd (s.2 19) i x)) := rs_aq (c := 1) (n := 500) (by decide) (fun _ => rfl)
theorem rs_i20 : mj_ia (tb ar) (rs_st ar B z q s) (B + 20) 0 = some (500, s.2 20) := rs_iq (by decide) rfl rfl
theorem rs_a20 {i : Nat} {x : Int32} : mj_sa (rs_st ar B z q s) (B + 20) i x = rs_st ar B z q (rs_u s 20 (upd (s.2 20) i x)) := rs_aq (c := 0) (n := 500) (by decide) (fun _ => rfl)
theorem rs_i21 : mj_ia (tb ar) (rs_st ar B z q s) (B + 21) 0 = some (500, s.2 21) := rs_iq (by decide) rfl rfl
theorem rs_a21 {i : Nat} {x : Int32} : mj_sa (rs_st ar B z q s) (B + 21) i x = rs_st ar B z q (rs_u s 21 (upd (s.2 21) i x)) := rs_aq (c := 0) (n := 500) (by decide) (fun _ => rfl)
theorem rs_i22 : mj_ia (tb ar) (rs_st ar B z q s) (B + 22) 0 = some (500, s.2 22) := rs_iq (by decide) rfl rfl
theorem rs_a22 {i : Nat} {x : Int32} : mj_sa (rs_st ar B z q s) (B + 22) i x = rs_st ar B z q (rs_u s 22 (upd (s.2 22) i x)) := rs_aq (c := 0) (n := 500) (by decide) (fun _ => rfl)
theorem rs_i23 : mj_ia (tb ar) (rs_st ar B z q s) (B + 23) 0 = some (45, s.2 23) := rs_iq (by decide) rfl rfl
theorem rs_a23 {i : Nat} {x : Int32} : mj_sa (rs_st ar B z q s) (B + 23) i x = rs_st ar B z q (rs_u s 23 (upd (s.2 23) i x)) := rs_aq (c := 0) (n := 45) (by decide) (fun _ => rfl)
theorem rs_i24 : mj_ia (tb ar) (rs_st ar B z q s) (B + 24) 0 = some (5, s.2 24) := rs_iq (by decide) rfl rfl
theorem rs_a24 {i : Nat} {x : Int32} : mj_sa (rs_st ar B z q s) (B + 24) i x = rs_st ar B z q (rs_u s 24 (upd (s.2 24) i x)) := rs_aq (c := 0) (n := 5) (by decide) (fun _ => rfl)
theorem rs_i25 : mj_ia (tb ar) (rs_st ar B z q s) (B + 25) 0 = some (5, s.2 25) := rs_iq (by decide) rfl rfl
theorem rs_a25 {i : Nat} {x : Int32} : mj_sa (rs_st ar B z q s) (B + 25) i x = rs_st ar B z q (rs_u s 25 (upd (s.2 25) i x)) := rs_aq (c := 0) (n := 5) (by decide) (fun _ => rfl)
theorem rs_i26 : mj_ia (tb ar) (rs_st ar B z q s) (B + 26) 0 = some (300, s.2 26) := rs_iq (by decide) rfl rfl
theorem rs_a26 {i : Nat} {x : Int32} : mj_sa (rs_st ar B z q s) (B + 26) i x = rs_st ar B z q (rs_u s 26 (upd (s.2 26) i x)) := rs_aq (c := 0) (n := 300) (by decide) (fun _ => rfl)
theorem rs_i27 : mj_ia (tb ar) (rs_st ar B z q s) (B + 27) 0 = some (110, s.2 27) := rs_iq (by decide) rfl rfl
theorem rs_a27 {i : Nat} {x : Int32} : mj_sa (rs_st ar B z q s) (B + 27) i x = rs_st ar B z q (rs_u s 27 (upd (s.2 27) i x)) := rs_aq (c := 0) (n := 110) (by decide) (fun _ => rfl)
theorem rs_i28 : mj_ia (tb ar) (rs_st ar B z q s) (B + 28) 1 = some (420, s.2 28) := rs_iq (by decide) rfl rfl
theorem rs_a28 {i : Nat} {x : Int32} : mj_sa (rs_st ar B z q s) (B + 28) i x = rs_st ar B z q (rs_u s 28 (upd (s.2 28) i x)) := rs_aq (c := 1) (n := 420) (by decide) (fun _ => rfl)
theorem rs_i29 : mj_ia (tb ar) (rs_st ar B z q s) (B + 29) 0 = some (420, s.2 29) := rs_iq (by decide) rfl rfl
theorem rs_a29 {i : Nat} {x : Int32} : mj_sa (rs_st ar B z q s) (B + 29) i x = rs_st ar B z q (rs_u s 29 (upd (s.2 29) i x)) := rs_aq (c := 0) (n := 420) (by decide) (fun _ => rfl)
theorem rs_i30 : mj_ia (tb ar) (rs_st ar B z q s) (B + 30) 0 = some (420, s.2 30) := rs_iq (by decide) rfl rfl
theorem rs_a30 {i : Nat} {x : Int32} : mj_sa (rs_st ar B z q s) (B + 30) i x = rs_st ar B z q (rs_u s 30 (upd (s.2 30) i x)) := rs_aq (c := 0) (n := 420) (by decide) (fun _ => rfl)
theorem rs_i31 : mj_ia (tb ar) (rs_st ar B z q s) (B + 31) 0 = some (420, s.2 31) := rs_iq (by decide) rfl rfl
theorem rs_a31 {i : Nat} {x : Int32} : mj_sa (rs_st ar B z q s) (B + 31) i x = rs_st ar B z q (rs_u s 31 (upd (s.2 31) i x)) := rs_aq (c := 0) (n := 420) (by decide) (fun _ => rfl)
theorem rs_i32 : mj_ia (tb ar) (rs_st ar B z q s) (B + 32) 0 = some (420, s.2 32) := rs_iq (by decide) rfl rfl
theorem rs_a32 {i : Nat} {x : Int32} : mj_sa (rs_st ar B z q s) (B + 32) i x = rs_st ar B z q (rs_u s 32 (upd (s.2 32) i x)) := rs_aq (c := 0) (n := 420) (by decide) (fun _ => rfl)
theorem rs_i33 : mj_ia (tb ar) (rs_st ar B z q s) (B + 33) 0 = some (420, s.2 33) := rs_iq (by decide) rfl rfl
theorem rs_a33 {i : Nat} {x : Int32} : mj_sa (rs_st ar B z q s) (B + 33) i x = rs_st ar B z q (rs_u s 33 (upd (s.2 33) i x)) := rs_aq (c := 0) (n := 420) (by decide) (fun _ => rfl)
theorem rs_i34 : mj_ia (tb ar) (rs_st ar B z q s) (B + 34) 0 = some (420, s.2 34) := rs_iq (by decide) rfl rfl
theorem rs_a34 {i : Nat} {x : Int32} : mj_sa (rs_st ar B z q s) (B + 34) i x = rs_st ar B z q (rs_u s 34 (upd (s.2 34) i x)) := rs_aq (c := 0) (n := 420) (by decide) (fun _ => rfl)
theorem rs_i35 : mj_ia (tb ar) (rs_st ar B z q s) (B + 35) 0 = some (42000, s.2 35) := rs_iq (by decide) rfl rfl
theorem rs_a35 {i : Nat} {x : Int32} : mj_sa (rs_st ar B z q s) (B + 35) i x = rs_st ar B z q (rs_u s 35 (upd (s.2 35) i x)) := rs_aq (c := 0) (n := 42000) (by decide) (fun _ => rfl)
theorem rs_i36 : mj_ia (tb ar) (rs_st ar B z q s) (B + 36) 0 = some (42000, s.2 36) := rs_iq (by decide) rfl rfl
theorem rs_a36 {i : Nat} {x : Int32} : mj_sa (rs_st ar B z q s) (B + 36) i x = rs_st ar B z q (rs_u s 36 (upd (s.2 36) i x)) := rs_aq (c := 0) (n := 42000) (by decide) (fun _ => rfl)
theorem rs_w_0 {x : Int32} : mj_sf (rs_st ar B z q s) B 0 (.int x) = rs_st ar B z q (rs_w s 0 x) := rs_wq (by rfl)
theorem rs_w_1 {x : Int32} : mj_sf (rs_st ar B z q s) B 1 (.int x) = rs_st ar B z q (rs_w s 1 x) := rs_wq (by rfl)
theorem rs_w_2 {x : Int32} : mj_sf (rs_st ar B z q s) B 2 (.int x) = rs_st ar B z q (rs_w s 2 x) := rs_wq (by rfl)
theorem rs_w_28 {x : Int32} : mj_sf (rs_st ar B z q s) B 28 (.int x) = rs_st ar B z q (rs_w s 28 x) := rs_wq (by rfl)
theorem rs_w_30 {x : Int32} : mj_sf (rs_st ar B z q s) B 30 (.int x) = rs_st ar B z q (rs_w s 30 x) := rs_wq (by rfl)
theorem rs_w_41 {x : Int32} : mj_sf (rs_st ar B z q s) B 41 (.int x) = rs_st ar B z q (rs_w s 41 x) := rs_wq (by rfl)
end RS
