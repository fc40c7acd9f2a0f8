theorem oy_all (ar : Nat → ClassId) : ∀ y, y < 138 → mj_okY (tb ar) tb_W tb_R tb_Y y
  | 0, _ => oy_0 ar
  | 1, _ => oy_1 ar
  | 2, _ => oy_2 ar
  | 3, _ => oy_3 ar
  | 4, _ => oy_4 ar
  | 5, _ => oy_5 ar
  | 6, _ => oy_6 ar
  | 7, _ => oy_7 ar
  | 8, _ => oy_8 ar
  | 9, _ => oy_9 ar
  | 10, _ => oy_10 ar
  | 11, _ => oy_11 ar
  | 12, _ => oy_12 ar
  | 13, _ => oy_13 ar
  | 14, _ => oy_14 ar
  | 15, _ => oy_15 ar
  | 16, _ => oy_16 ar
  | 17, _ => oy_17 ar
  | 18, _ => oy_18 ar
  | 19, _ => oy_19 ar
  | 20, _ => oy_20 ar
  | 21, _ => oy_21 ar
  | 22, _ => oy_22 ar
  | 23, _ => oy_23 ar
  | 24, _ => oy_24 ar
  | 25, _ => oy_25 ar
  | 26, _ => oy_26 ar
  | 27, _ => oy_27 ar
  | 28, _ => oy_28 ar
  | 29, _ => oy_29 ar
  | 30, _ => oy_30 ar
  | 31, _ => oy_31 ar
  | 32, _ => oy_32 ar
  | 33, _ => oy_33 ar
  | 34, _ => oy_34 ar
  | 35, _ => oy_35 ar
  | 36, _ => oy_36 ar
  | 37, _ => oy_37 ar
  | 38, _ => oy_38 ar
  | 39, _ => oy_39 ar
  | 40, _ => oy_40 ar
  | 41, _ => oy_41 ar
  | 42, _ => oy_42 ar
  | 43, _ => oy_43 ar
  | 44, _ => oy_44 ar
  | 45, _ => oy_45 ar
  | 46, _ => oy_46 ar
  | 47, _ => oy_47 ar
  | 48, _ => oy_48 ar
  | 49, _ => oy_49 ar
  | 50, _ => oy_50 ar
  | 51, _ => oy_51 ar
  | 52, _ => oy_52 ar
  | 53, _ => oy_53 ar
  | 54, _ => oy_54 ar
  | 55, _ => oy_55 ar
  | 56, _ => oy_56 ar
  | 57, _ => oy_57 ar
  | 58, _ => oy_58 ar
  | 59, _ => oy_59 ar
  | 60, _ => oy_60 ar
  | 61, _ => oy_61 ar
  | 62, _ => oy_62 ar
  | 63, _ => oy_63 ar
  | 64, _ => oy_64 ar
  | 65, _ => oy_65 ar
  | 66, _ => oy_66 ar
  | 67, _ => oy_67 ar
  | 68, _ => oy_68 ar
  | 69, _ => oy_69 ar
  | 70, _ => oy_70 ar
  | 71, _ => oy_71 ar
  | 72, _ => oy_72 ar
  | 73, _ => oy_73 ar
  | 74, _ => oy_74 ar
  | 75, _ => oy_75 ar
  | 76, _ => oy_76 ar
  | 77, _ => oy_77 ar
  | 78, _ => oy_78 ar
  | 79, _ => oy_79 ar
  | 80, _ => oy_80 ar
  | 81, _ => oy_81 ar
  | 82, _ => oy_82 ar
  | 83, _ => oy_83 ar
  | 84, _ => oy_84 ar
  | 85, _ => oy_85 ar
  | 86, _ => oy_86 ar
  | 87, _ => oy_87 ar
  | 88, _ => oy_88 ar
  | 89, _ => oy_89 ar
  | 90, _ => oy_90 ar
  | 91, _ => oy_91 ar
  | 92, _ => oy_92 ar
  | 93, _ => oy_93 ar
  | 94, _ => oy_94 ar
  | 95, _ => oy_95 ar
  | 96, _ => oy_96 ar
  | 97, _ => oy_97 ar
  | 98, _ => oy_98 ar
  | 99, _ => oy_99 ar
  | 100, _ => oy_100 ar
  | 101, _ => oy_101 ar
  | 102, _ => oy_102 ar
  | 103, _ => oy_103 ar
  | 104, _ => oy_104 ar
  | 105, _ => oy_105 ar
  | 106, _ => oy_106 ar
  | 107, _ => oy_107 ar
  | 108, _ => oy_108 ar
  | 109, _ => oy_109 ar
  | 110, _ => oy_110 ar
  | 111, _ => oy_111 ar
  | 112, _ => oy_112 ar
  | 113, _ => oy_113 ar
  | 114, _ => oy_114 ar
  | 115, _ => oy_115 ar
  | 116, _ => oy_116 ar
  | 117, _ => oy_117 ar
  | 118, _ => oy_118 ar
  | 119, _ => oy_119 ar
  | 120, _ => oy_120 ar
  | 121, _ => oy_121 ar
  | 122, _ => oy_122 ar
  | 123, _ => oy_123 ar
  | 124, _ => oy_124 ar
  | 125, _ => oy_125 ar
  | 126, _ => oy_126 ar
  | 127, _ => oy_127 ar
  | 128, _ => oy_128 ar
  | 129, _ => oy_129 ar
  | 130, _ => oy_130 ar
  | 131, _ => oy_131 ar
  | 132, _ => oy_132 ar
  | 133, _ => oy_133 ar
  | 134, _ => oy_134 ar
  | 135, _ => oy_135 ar
  | 136, _ => oy_136 ar
  | 137, _ => oy_137 ar
  | n + 138, h => absurd h (by omega)
theorem tb_ok (ar : Nat → ClassId) : mj_ok (tb ar) tb_cl tb_W tb_R := by
  refine ⟨?_, tb_clok_all ar, ?_, ?_, ?_, ?_, ?_, tb_mem (i := 119) (by decide +kernel), tb_mem (i := 178) (by decide +kernel), ?_, ?_⟩
  · intro o ix ci j fin h
    obtain ⟨q, hq, he⟩ := Option.map_eq_some_iff.mp (show (tb_find tb_fl o ix).map (fun q => q.1) = some (ci, j, fin) from h)
    have h1 := tb_okf_all _ (tb_find_mem hq)
    obtain ⟨⟨ci', j', fin'⟩, i⟩ := q
    cases he
    simp only [tb_okf, Bool.and_eq_true, decide_eq_true_eq] at h1
    obtain ⟨⟨⟨⟨h1, h2⟩, h3⟩, h4⟩, h5⟩ := h1
    exact ⟨tb_TT ci, tb_cl_at ci h2, h3, tb_mem h1, h4, fun _ => h5⟩
  · intro o ix ci h
    obtain ⟨q, hq, he⟩ := Option.map_eq_some_iff.mp (show (tb_find tb_nl o ix).map (fun q => q.1) = some ci from h)
    have h1 := tb_okn_all _ (tb_find_mem hq)
    obtain ⟨ci', i⟩ := q
    cases he
    simp only [tb_okn, Bool.and_eq_true, decide_eq_true_eq] at h1
    obtain ⟨⟨⟨h1, h2⟩, h3⟩, h4⟩ := h1
    exact ⟨tb_TT ci', tb_cl_at ci' h2, tb_mem h1, tb_mem h3, tb_mem h4⟩
  · intro o ix ci h
    obtain ⟨q, hq, he⟩ := Option.map_eq_some_iff.mp (show (tb_find tb_al o ix).map (fun q => q.1) = some ci from h)
    have h1 := tb_oka_all _ (tb_find_mem hq)
    obtain ⟨ci', i⟩ := q
    cases he
    exact tb_mem h1
  · intro o ix v h
    obtain ⟨q, hq, he⟩ := Option.map_eq_some_iff.mp (show (tb_find tb_kl o ix).map (fun q => q.1) = some v from h)
    have h1 := tb_okk_all _ (tb_find_mem hq)
    obtain ⟨v', i⟩ := q
    cases he
    exact tb_mem h1
  · intro o ix h
    obtain ⟨q, hq, he⟩ := Option.map_eq_some_iff.mp (show (tb_find tb_ml o ix).map (fun q => q.1) = some 998 from h)
    have h1 := tb_okl_all _ (tb_find_mem hq)
    obtain ⟨y, i⟩ := q
    cases he
    exact ⟨tb_mem h1, tb_mem (i := 84) (by decide +kernel), tb_mem (i := 85) (by decide +kernel)⟩
  · intro o ix h
    obtain ⟨q, hq, he⟩ := Option.map_eq_some_iff.mp (show (tb_find tb_ml o ix).map (fun q => q.1) = some 999 from h)
    have h1 := tb_okl_all _ (tb_find_mem hq)
    obtain ⟨y, i⟩ := q
    cases he
    exact ⟨tb_mem h1, tb_mem (i := 538) (by decide +kernel), tb_mem (i := 537) (by decide +kernel), tb_mem (i := 76) (by decide +kernel)⟩
  · intro o ix h
    obtain ⟨q, hq, he⟩ := Option.map_eq_some_iff.mp (show (tb_find tb_ml o ix).map (fun q => q.1) = some 997 from h)
    have h1 := tb_okl_all _ (tb_find_mem hq)
    obtain ⟨y, i⟩ := q
    cases he
    exact ⟨tb_mem h1, tb_mem (i := 523) (by decide +kernel), tb_mem (i := 75) (by decide +kernel), tb_mem (i := 524) (by decide +kernel)⟩
  · intro o ix h
    obtain ⟨q, hq, he⟩ := Option.map_eq_some_iff.mp (show (tb_find tb_ml o ix).map (fun q => q.1) = some 996 from h)
    have h1 := tb_okl_all _ (tb_find_mem hq)
    obtain ⟨y, i⟩ := q
    cases he
    exact ⟨tb_mem h1, tb_mem (i := 354) (by decide +kernel), tb_mem (i := 75) (by decide +kernel), tb_mem (i := 355) (by decide +kernel)⟩
theorem tb_okN : mj_okN tb_N := by
  intro w hw
  unfold tb_N at hw
  simp only [List.mem_cons, List.not_mem_nil, or_false] at hw
  rcases hw with rfl | rfl | rfl | rfl | rfl | rfl | rfl | rfl | rfl | rfl | rfl | rfl | rfl | rfl | rfl | rfl | rfl | rfl | rfl | rfl <;> first | exact Or.inl ⟨_, _, _, _, rfl⟩ | exact Or.inr (Or.inl ⟨_, rfl⟩) | exact Or.inr (Or.inr ⟨_, _, rfl⟩)
theorem tb_okM (ar : Nat → ClassId) : mj_okM (tb ar) tb_W tb_N tb_R tb_Y := by
  refine ⟨fun w hw => (List.mem_filter.mp hw).2, tb_okN, ?_⟩
  intro o ix y h hy
  obtain ⟨q, hq, he⟩ := Option.map_eq_some_iff.mp (show (tb_find tb_ml o ix).map (fun q => q.1) = some y from h)
  have h1 := tb_okl_all _ (tb_find_mem hq)
  obtain ⟨y', i⟩ := q
  cases he
  have e1 : ¬ y' = 998 := by omega
  have e2 : ¬ y' = 999 := by omega
  have e3 : ¬ y' = 997 := by omega
  have e4 : ¬ y' = 996 := by omega
  simp only [tb_okl, if_neg e1, if_neg e2, if_neg e3, if_neg e4, Bool.and_eq_true, decide_eq_true_eq] at h1
  obtain ⟨h1, h2⟩ := h1
  refine ⟨?_, oy_all ar y' h1⟩
  by_cases hi : i < 100000
  · rw [if_pos hi] at h2
    exact Or.inl (tb_mem h2)
  · rw [if_neg hi, decide_eq_true_eq] at h2
    exact Or.inr ⟨_, List.mem_of_getElem? h2⟩
