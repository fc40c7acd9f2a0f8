/-! the tables are right: every word that they rest on stands in the claim's own, by its place -/
def tb_at (i : Nat) (w : Cond) : Bool := decide (lw_tbl[i]? = some w) && goodWord w
theorem tb_mem {i : Nat} {w : Cond} (h : tb_at i w = true) : w ∈ tb_W := by
  unfold tb_at at h
  rw [Bool.and_eq_true, decide_eq_true_eq] at h
  exact List.mem_filter.mpr ⟨List.mem_of_getElem? h.1, h.2⟩
theorem tb_memc {i : Nat} {w : Cond} (h : lw_tbl[i]? = some w) (hg : goodWord w = true) : w ∈ tb_W := List.mem_filter.mpr ⟨List.mem_of_getElem? h, hg⟩
theorem tb_find_mem {α : Type} {l : List ((Nat × Nat) × α)} {a b : Nat} {x : α} (h : tb_find l a b = some x) : ((a, b), x) ∈ l := by
  unfold tb_find at h
  cases hf : l.find? (fun q => q.1.1 == a && q.1.2 == b) with
  | none => rw [hf] at h; cases h
  | some q =>
    rw [hf] at h
    have h1 := List.find?_some hf
    have h2 := List.mem_of_find?_eq_some hf
    simp only [Bool.and_eq_true, beq_iff_eq] at h1
    obtain ⟨⟨a', b'⟩, y⟩ := q
    simp only [Option.map_some, Option.some.injEq] at h
    obtain ⟨rfl, rfl⟩ := h1
    subst h
    exact h2
def tb_TT : Nat → u_T := fun c => ([TX0, TX1, TX2, TX3, TX4, TX5, TX6, TX7, TX8, TX9, TX10] : List u_T).getD c TX0
theorem tb_cl_at : ∀ c, c < 11 → tb_cl[c]? = some (tb_R c, tb_TT c, (tb_ty c).length)
  | 0, _ => rfl
  | 1, _ => rfl
  | 2, _ => rfl
  | 3, _ => rfl
  | 4, _ => rfl
  | 5, _ => rfl
  | 6, _ => rfl
  | 7, _ => rfl
  | 8, _ => rfl
  | 9, _ => rfl
  | 10, _ => rfl
  | n + 11, h => absurd h (by omega)
theorem tb_u_0 : (List.range 13).all (fun j => tb_at (([229, 231, 233, 235, 237, 239, 241, 243, 245, 247, 249, 251, 253] : List Nat).getD j 0) (u_lay RX0 TX0 j)) = true := by decide +kernel
theorem tb_u_1 : (List.range 8).all (fun j => tb_at (([161, 163, 165, 167, 169, 171, 173, 175] : List Nat).getD j 0) (u_lay RX1 TX1 j)) = true := by decide +kernel
theorem tb_u_2 : (List.range 5).all (fun j => tb_at (([304, 306, 308, 310, 312] : List Nat).getD j 0) (u_lay RX2 TX2 j)) = true := by decide +kernel
theorem tb_u_3 : (List.range 3).all (fun j => tb_at (([262, 264, 266] : List Nat).getD j 0) (u_lay RX3 TX3 j)) = true := by decide +kernel
theorem tb_u_4 : (List.range 7).all (fun j => tb_at (([422, 424, 426, 428, 430, 432, 434] : List Nat).getD j 0) (u_lay RX4 TX4 j)) = true := by decide +kernel
theorem tb_u_5 : (List.range 4).all (fun j => tb_at (([125, 127, 129, 131] : List Nat).getD j 0) (u_lay RX5 TX5 j)) = true := by decide +kernel
theorem tb_u_6 : (List.range 3).all (fun j => tb_at (([288, 290, 292] : List Nat).getD j 0) (u_lay RX6 TX6 j)) = true := by decide +kernel
theorem tb_u_7 : (List.range 4).all (fun j => tb_at (([110, 112, 114, 116] : List Nat).getD j 0) (u_lay RX7 TX7 j)) = true := by decide +kernel
theorem tb_u_8 : (List.range 3).all (fun j => tb_at (([189, 191, 193] : List Nat).getD j 0) (u_lay RX8 TX8 j)) = true := by decide +kernel
theorem tb_u_9 : (List.range 6).all (fun j => tb_at (([321, 323, 325, 327, 329, 331] : List Nat).getD j 0) (u_lay RX9 TX9 j)) = true := by decide +kernel
theorem tb_u_10 : (List.range 42).all (fun j => tb_at (([915, 917, 919, 921, 923, 925, 927, 929, 931, 933, 935, 937, 939, 941, 943, 945, 947, 949, 951, 953, 955, 957, 959, 961, 963, 965, 967, 969, 971, 973, 975, 977, 979, 981, 983, 985, 987, 989, 991, 993, 995, 997] : List Nat).getD j 0) (u_lay RX10 TX10 j)) = true := by decide +kernel
theorem tb_u_mem {C : String} {T : u_T} {N : Nat} {l : List Nat} (h : (List.range N).all (fun j => tb_at (l.getD j 0) (u_lay C T j)) = true) : ∀ w ∈ u_ws C T N, w ∈ tb_W := by
  intro w hw
  obtain ⟨j, hj, rfl⟩ := List.mem_map.mp hw
  exact tb_mem (List.all_eq_true.mp h j hj)
def tb_clok (ar : Nat → ClassId) (c : Nat) (r : vw_C) : Prop := r.1 = tb_R c ∧ r.2.2 = (mj_ty (tb ar) c).length ∧ (∀ w ∈ u_ws r.1 r.2.1 r.2.2, w ∈ tb_W) ∧ (∀ j, j < r.2.2 → parseFieldDescriptor (r.2.1 j).2.2.1 = (mj_ty (tb ar) c)[j]?) ∧ (∀ a, a < r.2.2 → ∀ b, b < r.2.2 → a ≠ b → (r.2.1 a).2.1 ≠ (r.2.1 b).2.1)
theorem tb_clok_0 (ar : Nat → ClassId) : tb_clok ar 0 (RX0, TX0, 13) := ⟨rfl, rfl, tb_u_mem tb_u_0, (by decide +kernel : ∀ j, j < 13 → parseFieldDescriptor (TX0 j).2.2.1 = tb_ty_0[j]?), nmX0⟩
theorem tb_clok_1 (ar : Nat → ClassId) : tb_clok ar 1 (RX1, TX1, 8) := ⟨rfl, rfl, tb_u_mem tb_u_1, (by decide +kernel : ∀ j, j < 8 → parseFieldDescriptor (TX1 j).2.2.1 = tb_ty_1[j]?), nmX1⟩
theorem tb_clok_2 (ar : Nat → ClassId) : tb_clok ar 2 (RX2, TX2, 5) := ⟨rfl, rfl, tb_u_mem tb_u_2, (by decide +kernel : ∀ j, j < 5 → parseFieldDescriptor (TX2 j).2.2.1 = tb_ty_2[j]?), nmX2⟩
theorem tb_clok_3 (ar : Nat → ClassId) : tb_clok ar 3 (RX3, TX3, 3) := ⟨rfl, rfl, tb_u_mem tb_u_3, (by decide +kernel : ∀ j, j < 3 → parseFieldDescriptor (TX3 j).2.2.1 = tb_ty_3[j]?), nmX3⟩
theorem tb_clok_4 (ar : Nat → ClassId) : tb_clok ar 4 (RX4, TX4, 7) := ⟨rfl, rfl, tb_u_mem tb_u_4, (by decide +kernel : ∀ j, j < 7 → parseFieldDescriptor (TX4 j).2.2.1 = tb_ty_4[j]?), nmX4⟩
theorem tb_clok_5 (ar : Nat → ClassId) : tb_clok ar 5 (RX5, TX5, 4) := ⟨rfl, rfl, tb_u_mem tb_u_5, (by decide +kernel : ∀ j, j < 4 → parseFieldDescriptor (TX5 j).2.2.1 = tb_ty_5[j]?), nmX5⟩
theorem tb_clok_6 (ar : Nat → ClassId) : tb_clok ar 6 (RX6, TX6, 3) := ⟨rfl, rfl, tb_u_mem tb_u_6, (by decide +kernel : ∀ j, j < 3 → parseFieldDescriptor (TX6 j).2.2.1 = tb_ty_6[j]?), nmX6⟩
theorem tb_clok_7 (ar : Nat → ClassId) : tb_clok ar 7 (RX7, TX7, 4) := ⟨rfl, rfl, tb_u_mem tb_u_7, (by decide +kernel : ∀ j, j < 4 → parseFieldDescriptor (TX7 j).2.2.1 = tb_ty_7[j]?), nmX7⟩
theorem tb_clok_8 (ar : Nat → ClassId) : tb_clok ar 8 (RX8, TX8, 3) := ⟨rfl, rfl, tb_u_mem tb_u_8, (by decide +kernel : ∀ j, j < 3 → parseFieldDescriptor (TX8 j).2.2.1 = tb_ty_8[j]?), nmX8⟩
theorem tb_clok_9 (ar : Nat → ClassId) : tb_clok ar 9 (RX9, TX9, 6) := ⟨rfl, rfl, tb_u_mem tb_u_9, (by decide +kernel : ∀ j, j < 6 → parseFieldDescriptor (TX9 j).2.2.1 = tb_ty_9[j]?), nmX9⟩
theorem tb_clok_10 (ar : Nat → ClassId) : tb_clok ar 10 (RX10, TX10, 42) := ⟨rfl, rfl, tb_u_mem tb_u_10, (by decide +kernel : ∀ j, j < 42 → parseFieldDescriptor (TX10 j).2.2.1 = tb_ty_10[j]?), nmX10⟩
theorem tb_clok_all (ar : Nat → ClassId) : ∀ (c : Nat) (r : vw_C), tb_cl[c]? = some r → tb_clok ar c r
  | 0, r, h => by cases h; exact tb_clok_0 ar
  | 1, r, h => by cases h; exact tb_clok_1 ar
  | 2, r, h => by cases h; exact tb_clok_2 ar
  | 3, r, h => by cases h; exact tb_clok_3 ar
  | 4, r, h => by cases h; exact tb_clok_4 ar
  | 5, r, h => by cases h; exact tb_clok_5 ar
  | 6, r, h => by cases h; exact tb_clok_6 ar
  | 7, r, h => by cases h; exact tb_clok_7 ar
  | 8, r, h => by cases h; exact tb_clok_8 ar
  | 9, r, h => by cases h; exact tb_clok_9 ar
  | 10, r, h => by cases h; exact tb_clok_10 ar
  | n + 11, r, h => by simp [tb_cl] at h
def tb_okf (q : (Nat × Nat) × (Nat × Nat × Bool) × Nat) : Bool := tb_at q.2.2 (.fieldLink (tb_R q.1.1) q.1.2 (tb_TT q.2.1.1 q.2.1.2.1).1 (tb_TT q.2.1.1 q.2.1.2.1).2.1 (tb_TT q.2.1.1 q.2.1.2.1).2.2.1) && decide (q.2.1.1 < 11) && decide (q.2.1.2.1 < (tb_ty q.2.1.1).length) && decide ((tb_TT q.2.1.1 q.2.1.2.1).2.2.2 = q.2.1.2.2) && decide ((tb_TT q.2.1.1 q.2.1.2.1).1 = tb_R q.2.1.1)
theorem tb_okf_all_0 : tb_fl_0.all tb_okf = true := by decide +kernel
theorem tb_okf_all_1 : tb_fl_1.all tb_okf = true := by decide +kernel
theorem tb_okf_all_2 : tb_fl_2.all tb_okf = true := by decide +kernel
theorem tb_okf_all_3 : tb_fl_3.all tb_okf = true := by decide +kernel
theorem tb_okf_all_4 : tb_fl_4.all tb_okf = true := by decide +kernel
theorem tb_okf_all_5 : tb_fl_5.all tb_okf = true := by decide +kernel
theorem tb_okf_all : ∀ q ∈ tb_fl, tb_okf q = true := by
  intro q hq
  unfold tb_fl at hq
  simp only [List.mem_append] at hq
  rcases hq with hq | hq | hq | hq | hq | hq
  · exact List.all_eq_true.mp tb_okf_all_0 q hq
  · exact List.all_eq_true.mp tb_okf_all_1 q hq
  · exact List.all_eq_true.mp tb_okf_all_2 q hq
  · exact List.all_eq_true.mp tb_okf_all_3 q hq
  · exact List.all_eq_true.mp tb_okf_all_4 q hq
  · exact List.all_eq_true.mp tb_okf_all_5 q hq
def tb_ii : List (Nat × Nat) := [(197, 63), (142, 61), (270, 64), (136, 60), (398, 74), (88, 58), (276, 65), (94, 59), (180, 62), (79, 57), (867, 66)]
def tb_okn (q : (Nat × Nat) × Nat × Nat) : Bool := tb_at q.2.2 (.classLink (tb_R q.1.1) q.1.2 (tb_R q.2.1)) && decide (q.2.1 < 11) && tb_at (tb_ii.getD q.2.1 (0, 0)).1 (.instantiable (tb_R q.2.1) (tb_ty q.2.1).length) && tb_at (tb_ii.getD q.2.1 (0, 0)).2 (.initialized (tb_R q.2.1))
theorem tb_okn_all_0 : tb_nl_0.all tb_okn = true := by decide +kernel
theorem tb_okn_all : ∀ q ∈ tb_nl, tb_okn q = true := by
  intro q hq
  unfold tb_nl at hq
  exact List.all_eq_true.mp tb_okn_all_0 q hq
def tb_oka (q : (Nat × Nat) × Nat × Nat) : Bool := tb_at q.2.2 (.classLink (tb_R q.1.1) q.1.2 (tb_R q.2.1))
theorem tb_oka_all_0 : tb_al_0.all tb_oka = true := by decide +kernel
theorem tb_oka_all : ∀ q ∈ tb_al, tb_oka q = true := by
  intro q hq
  unfold tb_al at hq
  exact List.all_eq_true.mp tb_oka_all_0 q hq
def tb_okk (q : (Nat × Nat) × Int32 × Nat) : Bool := tb_at q.2.2 (.constant (tb_R q.1.1) q.1.2 q.2.1)
theorem tb_okk_all_0 : tb_kl_0.all tb_okk = true := by decide +kernel
theorem tb_okk_all : ∀ q ∈ tb_kl, tb_okk q = true := by
  intro q hq
  unfold tb_kl at hq
  exact List.all_eq_true.mp tb_okk_all_0 q hq
def tb_okl (q : (Nat × Nat) × Nat × Nat) : Bool := if q.2.1 = 998 then tb_at q.2.2 (.methodLink (tb_R q.1.1) q.1.2 objectInit) else if q.2.1 = 999 then tb_at q.2.2 (.methodLink (tb_R q.1.1) q.1.2 arraycopyName) else if q.2.1 = 997 then tb_at q.2.2 (.methodLink (tb_R q.1.1) q.1.2 Lib.Math.max.name) else if q.2.1 = 996 then tb_at q.2.2 (.methodLink (tb_R q.1.1) q.1.2 Lib.Math.min.name) else decide (q.2.1 < 138) && (if q.2.2 < 100000 then tb_at q.2.2 (.methodLink (tb_R q.1.1) q.1.2 (tb_Y q.2.1)) else decide (tb_N[q.2.2 - 100000]? = some (.methodLinkNest (tb_R q.1.1) q.1.2 (tb_Y q.2.1) "CheapVotes")))
theorem tb_okl_all_0 : tb_ml_0.all tb_okl = true := by decide +kernel
theorem tb_okl_all_1 : tb_ml_1.all tb_okl = true := by decide +kernel
theorem tb_okl_all_2 : tb_ml_2.all tb_okl = true := by decide +kernel
theorem tb_okl_all_3 : tb_ml_3.all tb_okl = true := by decide +kernel
theorem tb_okl_all_4 : tb_ml_4.all tb_okl = true := by decide +kernel
theorem tb_okl_all_5 : tb_ml_5.all tb_okl = true := by decide +kernel
theorem tb_okl_all : ∀ q ∈ tb_ml, tb_okl q = true := by
  intro q hq
  unfold tb_ml at hq
  simp only [List.mem_append] at hq
  rcases hq with hq | hq | hq | hq | hq | hq
  · exact List.all_eq_true.mp tb_okl_all_0 q hq
  · exact List.all_eq_true.mp tb_okl_all_1 q hq
  · exact List.all_eq_true.mp tb_okl_all_2 q hq
  · exact List.all_eq_true.mp tb_okl_all_3 q hq
  · exact List.all_eq_true.mp tb_okl_all_4 q hq
  · exact List.all_eq_true.mp tb_okl_all_5 q hq
