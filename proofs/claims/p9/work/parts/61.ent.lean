/-! First frames of the methods, by program (wip/gen/exp.py's companion). -/
section EN
variable {ar : Nat → ClassId} {σ : mj_S}
theorem ent_0 {v0 v1 : Value} : mj_en (tb ar) 0 [v0, v1] σ = (0, [some v0, some v1, none], [], σ) := rfl
theorem mxl_0 : mj_mL (tb ar) 0 = 3 := rfl
theorem knd_0 : mj_kd (tb ar) 0 = 2 := rfl
theorem ent_1 {v0 v1 : Value} : mj_en (tb ar) 1 [v0, v1] σ = (0, [some v0, some v1], [], σ) := rfl
theorem mxl_1 : mj_mL (tb ar) 1 = 2 := rfl
theorem knd_1 : mj_kd (tb ar) 1 = 0 := rfl
theorem ent_2 {v0 : Value} : mj_en (tb ar) 2 [v0] σ = (0, [some v0, none], [], σ) := rfl
theorem mxl_2 : mj_mL (tb ar) 2 = 2 := rfl
theorem knd_2 : mj_kd (tb ar) 2 = 0 := rfl
theorem ent_3 {v0 v1 v2 : Value} : mj_en (tb ar) 3 [v0, v1, v2] σ = (0, [some v0, some v1, some v2], [], σ) := rfl
theorem mxl_3 : mj_mL (tb ar) 3 = 3 := rfl
theorem knd_3 : mj_kd (tb ar) 3 = 0 := rfl
theorem ent_4 {v0 v1 : Value} : mj_en (tb ar) 4 [v0, v1] σ = (0, [some v0, some v1, none, none], [], σ) := rfl
theorem mxl_4 : mj_mL (tb ar) 4 = 4 := rfl
theorem knd_4 : mj_kd (tb ar) 4 = 0 := rfl
theorem ent_5 {v0 v1 v2 : Value} : mj_en (tb ar) 5 [v0, v1, v2] σ = (0, [some v0, some v1, some v2, none, none, none], [], σ) := rfl
theorem mxl_5 : mj_mL (tb ar) 5 = 6 := rfl
theorem knd_5 : mj_kd (tb ar) 5 = 0 := rfl
theorem ent_6 {v0 v1 v2 : Value} : mj_en (tb ar) 6 [v0, v1, v2] σ = (0, [some v0, some v1, some v2, none], [], σ) := rfl
theorem mxl_6 : mj_mL (tb ar) 6 = 4 := rfl
theorem knd_6 : mj_kd (tb ar) 6 = 0 := rfl
theorem ent_7 {v0 v1 : Value} : mj_en (tb ar) 7 [v0, v1] σ = (0, [some v0, some v1], [], σ) := rfl
theorem mxl_7 : mj_mL (tb ar) 7 = 2 := rfl
theorem knd_7 : mj_kd (tb ar) 7 = 0 := rfl
theorem ent_8 {v0 v1 v2 : Value} : mj_en (tb ar) 8 [v0, v1, v2] σ = (0, [some v0, some v1, some v2], [], σ) := rfl
theorem mxl_8 : mj_mL (tb ar) 8 = 3 := rfl
theorem knd_8 : mj_kd (tb ar) 8 = 0 := rfl
theorem ent_9 {v0 v1 : Value} : mj_en (tb ar) 9 [v0, v1] σ = (0, [some v0, some v1, none], [], σ) := rfl
theorem mxl_9 : mj_mL (tb ar) 9 = 3 := rfl
theorem knd_9 : mj_kd (tb ar) 9 = 2 := rfl
theorem ent_10 {v0 v1 : Value} : mj_en (tb ar) 10 [v0, v1] σ = (0, [some v0, some v1], [], σ) := rfl
theorem mxl_10 : mj_mL (tb ar) 10 = 2 := rfl
theorem knd_10 : mj_kd (tb ar) 10 = 0 := rfl
theorem ent_11 {v0 v1 : Value} : mj_en (tb ar) 11 [v0, v1] σ = (0, [some v0, some v1], [], σ) := rfl
theorem mxl_11 : mj_mL (tb ar) 11 = 2 := rfl
theorem knd_11 : mj_kd (tb ar) 11 = 0 := rfl
theorem ent_12 {v0 v1 : Value} : mj_en (tb ar) 12 [v0, v1] σ = (0, [some v0, some v1], [], σ) := rfl
theorem mxl_12 : mj_mL (tb ar) 12 = 2 := rfl
theorem knd_12 : mj_kd (tb ar) 12 = 0 := rfl
theorem ent_13 {v0 : Value} : mj_en (tb ar) 13 [v0] σ = (0, [some v0], [], σ) := rfl
theorem mxl_13 : mj_mL (tb ar) 13 = 1 := rfl
theorem knd_13 : mj_kd (tb ar) 13 = 0 := rfl
theorem ent_14 {v0 v1 v2 : Value} : mj_en (tb ar) 14 [v0, v1, v2] σ = (0, [some v0, some v1, some v2, none], [], σ) := rfl
theorem mxl_14 : mj_mL (tb ar) 14 = 4 := rfl
theorem knd_14 : mj_kd (tb ar) 14 = 0 := rfl
theorem ent_15 {v0 v1 : Value} : mj_en (tb ar) 15 [v0, v1] σ = (0, [some v0, some v1, none], [], σ) := rfl
theorem mxl_15 : mj_mL (tb ar) 15 = 3 := rfl
theorem knd_15 : mj_kd (tb ar) 15 = 0 := rfl
theorem ent_16 {v0 : Value} : mj_en (tb ar) 16 [v0] σ = (0, [some v0], [], σ) := rfl
theorem mxl_16 : mj_mL (tb ar) 16 = 1 := rfl
theorem knd_16 : mj_kd (tb ar) 16 = 2 := rfl
theorem ent_17 {v0 v1 v2 v3 v4 v5 v6 : Value} : mj_en (tb ar) 17 [v0, v1, v2, v3, v4, v5, v6] σ = (0, [some v0, some v1, some v2, some v3, some v4, some v5, some v6, none, none], [], σ) := rfl
theorem mxl_17 : mj_mL (tb ar) 17 = 9 := rfl
theorem knd_17 : mj_kd (tb ar) 17 = 0 := rfl
theorem ent_18 {v0 v1 : Value} : mj_en (tb ar) 18 [v0, v1] σ = (0, [some v0, some v1, none], [], σ) := rfl
theorem mxl_18 : mj_mL (tb ar) 18 = 3 := rfl
theorem knd_18 : mj_kd (tb ar) 18 = 0 := rfl
theorem ent_19 {v0 v1 : Value} : mj_en (tb ar) 19 [v0, v1] σ = (0, [some v0, some v1], [], σ) := rfl
theorem mxl_19 : mj_mL (tb ar) 19 = 2 := rfl
theorem knd_19 : mj_kd (tb ar) 19 = 0 := rfl
theorem ent_20 {v0 v1 v2 : Value} : mj_en (tb ar) 20 [v0, v1, v2] σ = (0, [some v0, some v1, some v2], [], σ) := rfl
theorem mxl_20 : mj_mL (tb ar) 20 = 3 := rfl
theorem knd_20 : mj_kd (tb ar) 20 = 2 := rfl
theorem ent_21 {v0 v1 : Value} : mj_en (tb ar) 21 [v0, v1] σ = (0, [some v0, some v1], [], σ) := rfl
theorem mxl_21 : mj_mL (tb ar) 21 = 2 := rfl
theorem knd_21 : mj_kd (tb ar) 21 = 0 := rfl
theorem ent_22 {v0 : Value} : mj_en (tb ar) 22 [v0] σ = (0, [some v0], [], σ) := rfl
theorem mxl_22 : mj_mL (tb ar) 22 = 1 := rfl
theorem knd_22 : mj_kd (tb ar) 22 = 2 := rfl
theorem ent_23 {v0 v1 v2 v3 v4 v5 v6 : Value} : mj_en (tb ar) 23 [v0, v1, v2, v3, v4, v5, v6] σ = (0, [some v0, some v1, some v2, some v3, some v4, some v5, some v6], [], σ) := rfl
theorem mxl_23 : mj_mL (tb ar) 23 = 7 := rfl
theorem knd_23 : mj_kd (tb ar) 23 = 0 := rfl
theorem ent_24 {v0 : Value} : mj_en (tb ar) 24 [v0] σ = (0, [some v0], [], σ) := rfl
theorem mxl_24 : mj_mL (tb ar) 24 = 1 := rfl
theorem knd_24 : mj_kd (tb ar) 24 = 0 := rfl
theorem ent_25 {v0 : Value} : mj_en (tb ar) 25 [v0] σ = (0, [some v0], [], σ) := rfl
theorem mxl_25 : mj_mL (tb ar) 25 = 1 := rfl
theorem knd_25 : mj_kd (tb ar) 25 = 2 := rfl
theorem ent_26 {v0 : Value} : mj_en (tb ar) 26 [v0] σ = (0, [some v0], [], σ) := rfl
theorem mxl_26 : mj_mL (tb ar) 26 = 1 := rfl
theorem knd_26 : mj_kd (tb ar) 26 = 2 := rfl
theorem ent_27 {v0 v1 : Value} : mj_en (tb ar) 27 [v0, v1] σ = (0, [some v0, some v1, none], [], σ) := rfl
theorem mxl_27 : mj_mL (tb ar) 27 = 3 := rfl
theorem knd_27 : mj_kd (tb ar) 27 = 0 := rfl
theorem ent_28 {v0 v1 : Value} : mj_en (tb ar) 28 [v0, v1] σ = (0, [some v0, some v1], [], σ) := rfl
theorem mxl_28 : mj_mL (tb ar) 28 = 2 := rfl
theorem knd_28 : mj_kd (tb ar) 28 = 0 := rfl
theorem ent_29 {v0 v1 : Value} : mj_en (tb ar) 29 [v0, v1] σ = (0, [some v0, some v1], [], σ) := rfl
theorem mxl_29 : mj_mL (tb ar) 29 = 2 := rfl
theorem knd_29 : mj_kd (tb ar) 29 = 0 := rfl
theorem ent_30 {v0 v1 : Value} : mj_en (tb ar) 30 [v0, v1] σ = (0, [some v0, some v1, none, none], [], σ) := rfl
theorem mxl_30 : mj_mL (tb ar) 30 = 4 := rfl
theorem knd_30 : mj_kd (tb ar) 30 = 0 := rfl
theorem ent_31 {v0 : Value} : mj_en (tb ar) 31 [v0] σ = (0, [some v0], [], σ) := rfl
theorem mxl_31 : mj_mL (tb ar) 31 = 1 := rfl
theorem knd_31 : mj_kd (tb ar) 31 = 2 := rfl
theorem ent_32 {v0 v1 v2 v3 : Value} : mj_en (tb ar) 32 [v0, v1, v2, v3] σ = (0, [some v0, some v1, some v2, some v3], [], σ) := rfl
theorem mxl_32 : mj_mL (tb ar) 32 = 4 := rfl
theorem knd_32 : mj_kd (tb ar) 32 = 0 := rfl
theorem ent_33 {v0 v1 : Value} : mj_en (tb ar) 33 [v0, v1] σ = (0, [some v0, some v1, none, none], [], σ) := rfl
theorem mxl_33 : mj_mL (tb ar) 33 = 4 := rfl
theorem knd_33 : mj_kd (tb ar) 33 = 0 := rfl
theorem ent_34 {v0 v1 : Value} : mj_en (tb ar) 34 [v0, v1] σ = (0, [some v0, some v1, none], [], σ) := rfl
theorem mxl_34 : mj_mL (tb ar) 34 = 3 := rfl
theorem knd_34 : mj_kd (tb ar) 34 = 0 := rfl
theorem ent_35 {v0 : Value} : mj_en (tb ar) 35 [v0] σ = (0, [some v0, none, none], [], σ) := rfl
theorem mxl_35 : mj_mL (tb ar) 35 = 3 := rfl
theorem knd_35 : mj_kd (tb ar) 35 = 0 := rfl
theorem ent_36 {v0 : Value} : mj_en (tb ar) 36 [v0] σ = (0, [some v0], [], σ) := rfl
theorem mxl_36 : mj_mL (tb ar) 36 = 1 := rfl
theorem knd_36 : mj_kd (tb ar) 36 = 2 := rfl
theorem ent_37 {v0 v1 : Value} : mj_en (tb ar) 37 [v0, v1] σ = (0, [some v0, some v1], [], σ) := rfl
theorem mxl_37 : mj_mL (tb ar) 37 = 2 := rfl
theorem knd_37 : mj_kd (tb ar) 37 = 0 := rfl
theorem ent_38 {v0 v1 : Value} : mj_en (tb ar) 38 [v0, v1] σ = (0, [some v0, some v1, none], [], σ) := rfl
theorem mxl_38 : mj_mL (tb ar) 38 = 3 := rfl
theorem knd_38 : mj_kd (tb ar) 38 = 0 := rfl
theorem ent_39 {v0 : Value} : mj_en (tb ar) 39 [v0] σ = (0, [some v0, none, none], [], σ) := rfl
theorem mxl_39 : mj_mL (tb ar) 39 = 3 := rfl
theorem knd_39 : mj_kd (tb ar) 39 = 0 := rfl
theorem ent_40 {v0 : Value} : mj_en (tb ar) 40 [v0] σ = (0, [some v0, none, none], [], σ) := rfl
theorem mxl_40 : mj_mL (tb ar) 40 = 3 := rfl
theorem knd_40 : mj_kd (tb ar) 40 = 0 := rfl
theorem ent_41 {v0 v1 : Value} : mj_en (tb ar) 41 [v0, v1] σ = (0, [some v0, some v1, none, none], [], σ) := rfl
theorem mxl_41 : mj_mL (tb ar) 41 = 4 := rfl
theorem knd_41 : mj_kd (tb ar) 41 = 2 := rfl
theorem ent_42 {v0 v1 v2 : Value} : mj_en (tb ar) 42 [v0, v1, v2] σ = (0, [some v0, some v1, some v2, none], [], σ) := rfl
theorem mxl_42 : mj_mL (tb ar) 42 = 4 := rfl
theorem knd_42 : mj_kd (tb ar) 42 = 0 := rfl
theorem ent_43 {v0 v1 : Value} : mj_en (tb ar) 43 [v0, v1] σ = (0, [some v0, some v1, none, none, none, none], [], σ) := rfl
theorem mxl_43 : mj_mL (tb ar) 43 = 6 := rfl
theorem knd_43 : mj_kd (tb ar) 43 = 0 := rfl
theorem ent_44 {v0 v1 : Value} : mj_en (tb ar) 44 [v0, v1] σ = (0, [some v0, some v1], [], σ) := rfl
theorem mxl_44 : mj_mL (tb ar) 44 = 2 := rfl
theorem knd_44 : mj_kd (tb ar) 44 = 0 := rfl
theorem ent_45 {v0 v1 : Value} : mj_en (tb ar) 45 [v0, v1] σ = (0, [some v0, some v1], [], σ) := rfl
theorem mxl_45 : mj_mL (tb ar) 45 = 2 := rfl
theorem knd_45 : mj_kd (tb ar) 45 = 0 := rfl
theorem ent_46 {v0 v1 : Value} : mj_en (tb ar) 46 [v0, v1] σ = (0, [some v0, some v1], [], σ) := rfl
theorem mxl_46 : mj_mL (tb ar) 46 = 2 := rfl
theorem knd_46 : mj_kd (tb ar) 46 = 0 := rfl
theorem ent_47 {v0 : Value} : mj_en (tb ar) 47 [v0] σ = (0, [some v0, none], [], σ) := rfl
theorem mxl_47 : mj_mL (tb ar) 47 = 2 := rfl
theorem knd_47 : mj_kd (tb ar) 47 = 0 := rfl
theorem ent_48 {v0 v1 : Value} : mj_en (tb ar) 48 [v0, v1] σ = (0, [some v0, some v1, none, none, none], [], σ) := rfl
theorem mxl_48 : mj_mL (tb ar) 48 = 5 := rfl
theorem knd_48 : mj_kd (tb ar) 48 = 0 := rfl
theorem ent_49 {v0 v1 v2 : Value} : mj_en (tb ar) 49 [v0, v1, v2] σ = (0, [some v0, some v1, some v2, none], [], σ) := rfl
theorem mxl_49 : mj_mL (tb ar) 49 = 4 := rfl
theorem knd_49 : mj_kd (tb ar) 49 = 0 := rfl
theorem ent_50 {v0 : Value} : mj_en (tb ar) 50 [v0] σ = (0, [some v0], [], σ) := rfl
theorem mxl_50 : mj_mL (tb ar) 50 = 1 := rfl
theorem knd_50 : mj_kd (tb ar) 50 = 0 := rfl
theorem ent_51 {v0 v1 v2 : Value} : mj_en (tb ar) 51 [v0, v1, v2] σ = (0, [some v0, some v1, some v2, none], [], σ) := rfl
theorem mxl_51 : mj_mL (tb ar) 51 = 4 := rfl
theorem knd_51 : mj_kd (tb ar) 51 = 0 := rfl
theorem ent_52 {v0 v1 v2 : Value} : mj_en (tb ar) 52 [v0, v1, v2] σ = (0, [some v0, some v1, some v2], [], σ) := rfl
theorem mxl_52 : mj_mL (tb ar) 52 = 3 := rfl
theorem knd_52 : mj_kd (tb ar) 52 = 0 := rfl
theorem ent_53 {v0 v1 v2 : Value} : mj_en (tb ar) 53 [v0, v1, v2] σ = (0, [some v0, some v1, some v2, none], [], σ) := rfl
theorem mxl_53 : mj_mL (tb ar) 53 = 4 := rfl
theorem knd_53 : mj_kd (tb ar) 53 = 0 := rfl
theorem ent_54 {v0 v1 v2 v3 : Value} : mj_en (tb ar) 54 [v0, v1, v2, v3] σ = (0, [some v0, some v1, some v2, some v3, none], [], σ) := rfl
theorem mxl_54 : mj_mL (tb ar) 54 = 5 := rfl
theorem knd_54 : mj_kd (tb ar) 54 = 0 := rfl
theorem ent_55 {v0 v1 v2 : Value} : mj_en (tb ar) 55 [v0, v1, v2] σ = (0, [some v0, some v1, some v2, none], [], σ) := rfl
theorem mxl_55 : mj_mL (tb ar) 55 = 4 := rfl
theorem knd_55 : mj_kd (tb ar) 55 = 0 := rfl
theorem ent_56 {v0 : Value} : mj_en (tb ar) 56 [v0] σ = (0, [some v0], [], σ) := rfl
theorem mxl_56 : mj_mL (tb ar) 56 = 1 := rfl
theorem knd_56 : mj_kd (tb ar) 56 = 0 := rfl
theorem ent_57 {v0 v1 : Value} : mj_en (tb ar) 57 [v0, v1] σ = (0, [some v0, some v1], [], σ) := rfl
theorem mxl_57 : mj_mL (tb ar) 57 = 2 := rfl
theorem knd_57 : mj_kd (tb ar) 57 = 0 := rfl
theorem ent_58 {v0 v1 : Value} : mj_en (tb ar) 58 [v0, v1] σ = (0, [some v0, some v1], [], σ) := rfl
theorem mxl_58 : mj_mL (tb ar) 58 = 2 := rfl
theorem knd_58 : mj_kd (tb ar) 58 = 0 := rfl
theorem ent_59 {v0 v1 : Value} : mj_en (tb ar) 59 [v0, v1] σ = (0, [some v0, some v1], [], σ) := rfl
theorem mxl_59 : mj_mL (tb ar) 59 = 2 := rfl
theorem knd_59 : mj_kd (tb ar) 59 = 0 := rfl
theorem ent_60 {v0 v1 : Value} : mj_en (tb ar) 60 [v0, v1] σ = (0, [some v0, some v1], [], σ) := rfl
theorem mxl_60 : mj_mL (tb ar) 60 = 2 := rfl
theorem knd_60 : mj_kd (tb ar) 60 = 0 := rfl
theorem ent_61 {v0 v1 : Value} : mj_en (tb ar) 61 [v0, v1] σ = (0, [some v0, some v1, none], [], σ) := rfl
theorem mxl_61 : mj_mL (tb ar) 61 = 3 := rfl
theorem knd_61 : mj_kd (tb ar) 61 = 1 := rfl
theorem ent_62 {v0 v1 v2 : Value} : mj_en (tb ar) 62 [v0, v1, v2] σ = (0, [some v0, some v1, some v2, none, none], [], σ) := rfl
theorem mxl_62 : mj_mL (tb ar) 62 = 5 := rfl
theorem knd_62 : mj_kd (tb ar) 62 = 0 := rfl
theorem ent_63 {v0 v1 : Value} : mj_en (tb ar) 63 [v0, v1] σ = (0, [some v0, some v1, none], [], σ) := rfl
theorem mxl_63 : mj_mL (tb ar) 63 = 3 := rfl
theorem knd_63 : mj_kd (tb ar) 63 = 0 := rfl
theorem ent_64 {v0 v1 : Value} : mj_en (tb ar) 64 [v0, v1] σ = (0, [some v0, some v1, none, none, none], [], σ) := rfl
theorem mxl_64 : mj_mL (tb ar) 64 = 5 := rfl
theorem knd_64 : mj_kd (tb ar) 64 = 0 := rfl
theorem ent_65 {v0 v1 : Value} : mj_en (tb ar) 65 [v0, v1] σ = (0, [some v0, some v1, none, none], [], σ) := rfl
theorem mxl_65 : mj_mL (tb ar) 65 = 4 := rfl
theorem knd_65 : mj_kd (tb ar) 65 = 0 := rfl
theorem ent_66 {v0 v1 v2 v3 : Value} : mj_en (tb ar) 66 [v0, v1, v2, v3] σ = (0, [some v0, some v1, some v2, some v3, none, none], [], σ) := rfl
theorem mxl_66 : mj_mL (tb ar) 66 = 6 := rfl
theorem knd_66 : mj_kd (tb ar) 66 = 0 := rfl
theorem ent_67 {v0 v1 v2 : Value} : mj_en (tb ar) 67 [v0, v1, v2] σ = (0, [some v0, some v1, some v2, none], [], σ) := rfl
theorem mxl_67 : mj_mL (tb ar) 67 = 4 := rfl
theorem knd_67 : mj_kd (tb ar) 67 = 0 := rfl
theorem ent_68 {v0 v1 v2 : Value} : mj_en (tb ar) 68 [v0, v1, v2] σ = (0, [some v0, some v1, some v2], [], σ) := rfl
theorem mxl_68 : mj_mL (tb ar) 68 = 3 := rfl
theorem knd_68 : mj_kd (tb ar) 68 = 0 := rfl
theorem ent_69 {v0 v1 v2 : Value} : mj_en (tb ar) 69 [v0, v1, v2] σ = (0, [some v0, some v1, some v2, none, none], [], σ) := rfl
theorem mxl_69 : mj_mL (tb ar) 69 = 5 := rfl
theorem knd_69 : mj_kd (tb ar) 69 = 0 := rfl
theorem ent_70 {v0 v1 v2 : Value} : mj_en (tb ar) 70 [v0, v1, v2] σ = (0, [some v0, some v1, some v2], [], σ) := rfl
theorem mxl_70 : mj_mL (tb ar) 70 = 3 := rfl
theorem knd_70 : mj_kd (tb ar) 70 = 0 := rfl
theorem ent_71 {v0 v1 v2 : Value} : mj_en (tb ar) 71 [v0, v1, v2] σ = (0, [some v0, some v1, some v2], [], σ) := rfl
theorem mxl_71 : mj_mL (tb ar) 71 = 3 := rfl
theorem knd_71 : mj_kd (tb ar) 71 = 0 := rfl
theorem ent_72 {v0 v1 v2 v3 v4 : Value} : mj_en (tb ar) 72 [v0, v1, v2, v3, v4] σ = (0, [some v0, some v1, some v2, some v3, some v4], [], σ) := rfl
theorem mxl_72 : mj_mL (tb ar) 72 = 5 := rfl
theorem knd_72 : mj_kd (tb ar) 72 = 0 := rfl
theorem ent_73 {v0 v1 v2 : Value} : mj_en (tb ar) 73 [v0, v1, v2] σ = (0, [some v0, some v1, some v2, none, none, none], [], σ) := rfl
theorem mxl_73 : mj_mL (tb ar) 73 = 6 := rfl
theorem knd_73 : mj_kd (tb ar) 73 = 0 := rfl
theorem ent_74 {v0 : Value} : mj_en (tb ar) 74 [v0] σ = (0, [some v0, none, none], [], σ) := rfl
theorem mxl_74 : mj_mL (tb ar) 74 = 3 := rfl
theorem knd_74 : mj_kd (tb ar) 74 = 1 := rfl
theorem ent_75 {v0 v1 v2 : Value} : mj_en (tb ar) 75 [v0, v1, v2] σ = (0, [some v0, some v1, some v2], [], σ) := rfl
theorem mxl_75 : mj_mL (tb ar) 75 = 3 := rfl
theorem knd_75 : mj_kd (tb ar) 75 = 0 := rfl
theorem ent_76 {v0 v1 : Value} : mj_en (tb ar) 76 [v0, v1] σ = (0, [some v0, some v1, none, none], [], σ) := rfl
theorem mxl_76 : mj_mL (tb ar) 76 = 4 := rfl
theorem knd_76 : mj_kd (tb ar) 76 = 1 := rfl
theorem ent_77 {v0 v1 v2 : Value} : mj_en (tb ar) 77 [v0, v1, v2] σ = (0, [some v0, some v1, some v2, none, none], [], σ) := rfl
theorem mxl_77 : mj_mL (tb ar) 77 = 5 := rfl
theorem knd_77 : mj_kd (tb ar) 77 = 0 := rfl
theorem ent_78 {v0 v1 v2 v3 : Value} : mj_en (tb ar) 78 [v0, v1, v2, v3] σ = (0, [some v0, some v1, some v2, some v3, none, none], [], σ) := rfl
theorem mxl_78 : mj_mL (tb ar) 78 = 6 := rfl
theorem knd_78 : mj_kd (tb ar) 78 = 0 := rfl
theorem ent_79 {v0 v1 : Value} : mj_en (tb ar) 79 [v0, v1] σ = (0, [some v0, some v1, none, none, none], [], σ) := rfl
theorem mxl_79 : mj_mL (tb ar) 79 = 5 := rfl
theorem knd_79 : mj_kd (tb ar) 79 = 0 := rfl
theorem ent_80 {v0 v1 v2 : Value} : mj_en (tb ar) 80 [v0, v1, v2] σ = (0, [some v0, some v1, some v2, none], [], σ) := rfl
theorem mxl_80 : mj_mL (tb ar) 80 = 4 := rfl
theorem knd_80 : mj_kd (tb ar) 80 = 0 := rfl
theorem ent_81 {v0 v1 v2 v3 : Value} : mj_en (tb ar) 81 [v0, v1, v2, v3] σ = (0, [some v0, some v1, some v2, some v3, none, none], [], σ) := rfl
theorem mxl_81 : mj_mL (tb ar) 81 = 6 := rfl
theorem knd_81 : mj_kd (tb ar) 81 = 0 := rfl
theorem ent_82 {v0 v1 v2 v3 : Value} : mj_en (tb ar) 82 [v0, v1, v2, v3] σ = (0, [some v0, some v1, some v2, some v3, none, none, none, none], [], σ) := rfl
theorem mxl_82 : mj_mL (tb ar) 82 = 8 := rfl
theorem knd_82 : mj_kd (tb ar) 82 = 0 := rfl
theorem ent_83 {v0 : Value} : mj_en (tb ar) 83 [v0] σ = (0, [some v0, none, none, none], [], σ) := rfl
theorem mxl_83 : mj_mL (tb ar) 83 = 4 := rfl
theorem knd_83 : mj_kd (tb ar) 83 = 1 := rfl
theorem ent_84 {v0 v1 v2 : Value} : mj_en (tb ar) 84 [v0, v1, v2] σ = (0, [some v0, some v1, some v2, none, none, none], [], σ) := rfl
theorem mxl_84 : mj_mL (tb ar) 84 = 6 := rfl
theorem knd_84 : mj_kd (tb ar) 84 = 0 := rfl
theorem ent_85 {v0 : Value} : mj_en (tb ar) 85 [v0] σ = (0, [some v0], [], σ) := rfl
theorem mxl_85 : mj_mL (tb ar) 85 = 1 := rfl
theorem knd_85 : mj_kd (tb ar) 85 = 1 := rfl
theorem ent_86 {v0 : Value} : mj_en (tb ar) 86 [v0] σ = (0, [some v0], [], σ) := rfl
theorem mxl_86 : mj_mL (tb ar) 86 = 1 := rfl
theorem knd_86 : mj_kd (tb ar) 86 = 1 := rfl
theorem ent_87 {v0 v1 : Value} : mj_en (tb ar) 87 [v0, v1] σ = (0, [some v0, some v1], [], σ) := rfl
theorem mxl_87 : mj_mL (tb ar) 87 = 2 := rfl
theorem knd_87 : mj_kd (tb ar) 87 = 2 := rfl
theorem ent_88 {v0 : Value} : mj_en (tb ar) 88 [v0] σ = (0, [some v0], [], σ) := rfl
theorem mxl_88 : mj_mL (tb ar) 88 = 1 := rfl
theorem knd_88 : mj_kd (tb ar) 88 = 0 := rfl
theorem ent_89 {v0 v1 v2 : Value} : mj_en (tb ar) 89 [v0, v1, v2] σ = (0, [some v0, some v1, some v2], [], σ) := rfl
theorem mxl_89 : mj_mL (tb ar) 89 = 3 := rfl
theorem knd_89 : mj_kd (tb ar) 89 = 1 := rfl
theorem ent_90 {v0 v1 : Value} : mj_en (tb ar) 90 [v0, v1] σ = (0, [some v0, some v1], [], σ) := rfl
theorem mxl_90 : mj_mL (tb ar) 90 = 2 := rfl
theorem knd_90 : mj_kd (tb ar) 90 = 0 := rfl
theorem ent_91 {v0 : Value} : mj_en (tb ar) 91 [v0] σ = (0, [some v0, none, none], [], σ) := rfl
theorem mxl_91 : mj_mL (tb ar) 91 = 3 := rfl
theorem knd_91 : mj_kd (tb ar) 91 = 1 := rfl
theorem ent_92 {v0 v1 v2 : Value} : mj_en (tb ar) 92 [v0, v1, v2] σ = (0, [some v0, some v1, some v2, none, none, none], [], σ) := rfl
theorem mxl_92 : mj_mL (tb ar) 92 = 6 := rfl
theorem knd_92 : mj_kd (tb ar) 92 = 0 := rfl
theorem ent_93 {v0 v1 v2 v3 : Value} : mj_en (tb ar) 93 [v0, v1, v2, v3] σ = (0, [some v0, some v1, some v2, some v3, none, none], [], σ) := rfl
theorem mxl_93 : mj_mL (tb ar) 93 = 6 := rfl
theorem knd_93 : mj_kd (tb ar) 93 = 0 := rfl
theorem ent_94 {v0 v1 : Value} : mj_en (tb ar) 94 [v0, v1] σ = (0, [some v0, some v1, none], [], σ) := rfl
theorem mxl_94 : mj_mL (tb ar) 94 = 3 := rfl
theorem knd_94 : mj_kd (tb ar) 94 = 0 := rfl
theorem ent_95 {v0 v1 v2 v3 : Value} : mj_en (tb ar) 95 [v0, v1, v2, v3] σ = (0, [some v0, some v1, some v2, some v3], [], σ) := rfl
theorem mxl_95 : mj_mL (tb ar) 95 = 4 := rfl
theorem knd_95 : mj_kd (tb ar) 95 = 0 := rfl
theorem ent_96 {v0 v1 v2 v3 v4 v5 v6 : Value} : mj_en (tb ar) 96 [v0, v1, v2, v3, v4, v5, v6] σ = (0, [some v0, some v1, some v2, some v3, some v4, some v5, some v6, none, none], [], σ) := rfl
theorem mxl_96 : mj_mL (tb ar) 96 = 9 := rfl
theorem knd_96 : mj_kd (tb ar) 96 = 0 := rfl
theorem ent_97 {v0 v1 v2 v3 : Value} : mj_en (tb ar) 97 [v0, v1, v2, v3] σ = (0, [some v0, some v1, some v2, some v3, none, none, none], [], σ) := rfl
theorem mxl_97 : mj_mL (tb ar) 97 = 7 := rfl
theorem knd_97 : mj_kd (tb ar) 97 = 0 := rfl
theorem ent_98 {v0 v1 v2 v3 v4 v5 v6 : Value} : mj_en (tb ar) 98 [v0, v1, v2, v3, v4, v5, v6] σ = (0, [some v0, some v1, some v2, some v3, some v4, some v5, some v6, none], [], σ) := rfl
theorem mxl_98 : mj_mL (tb ar) 98 = 8 := rfl
theorem knd_98 : mj_kd (tb ar) 98 = 0 := rfl
theorem ent_99 {v0 v1 : Value} : mj_en (tb ar) 99 [v0, v1] σ = (0, [some v0, some v1, none, none, none, none, none], [], σ) := rfl
theorem mxl_99 : mj_mL (tb ar) 99 = 7 := rfl
theorem knd_99 : mj_kd (tb ar) 99 = 0 := rfl
theorem ent_100 {v0 v1 v2 v3 v4 : Value} : mj_en (tb ar) 100 [v0, v1, v2, v3, v4] σ = (0, [some v0, some v1, some v2, some v3, some v4, none], [], σ) := rfl
theorem mxl_100 : mj_mL (tb ar) 100 = 6 := rfl
theorem knd_100 : mj_kd (tb ar) 100 = 0 := rfl
theorem ent_101 {v0 v1 v2 : Value} : mj_en (tb ar) 101 [v0, v1, v2] σ = (0, [some v0, some v1, some v2, none, none], [], σ) := rfl
theorem mxl_101 : mj_mL (tb ar) 101 = 5 := rfl
theorem knd_101 : mj_kd (tb ar) 101 = 0 := rfl
theorem ent_102 {v0 v1 v2 v3 : Value} : mj_en (tb ar) 102 [v0, v1, v2, v3] σ = (0, [some v0, some v1, some v2, some v3, none, none], [], σ) := rfl
theorem mxl_102 : mj_mL (tb ar) 102 = 6 := rfl
theorem knd_102 : mj_kd (tb ar) 102 = 0 := rfl
theorem ent_103 {v0 v1 v2 v3 : Value} : mj_en (tb ar) 103 [v0, v1, v2, v3] σ = (0, [some v0, some v1, some v2, some v3, none, none], [], σ) := rfl
theorem mxl_103 : mj_mL (tb ar) 103 = 6 := rfl
theorem knd_103 : mj_kd (tb ar) 103 = 0 := rfl
theorem ent_104 {v0 v1 : Value} : mj_en (tb ar) 104 [v0, v1] σ = (0, [some v0, some v1, none], [], σ) := rfl
theorem mxl_104 : mj_mL (tb ar) 104 = 3 := rfl
theorem knd_104 : mj_kd (tb ar) 104 = 0 := rfl
theorem ent_105 {v0 v1 : Value} : mj_en (tb ar) 105 [v0, v1] σ = (0, [some v0, some v1, none, none], [], σ) := rfl
theorem mxl_105 : mj_mL (tb ar) 105 = 4 := rfl
theorem knd_105 : mj_kd (tb ar) 105 = 0 := rfl
theorem ent_106 {v0 v1 v2 : Value} : mj_en (tb ar) 106 [v0, v1, v2] σ = (0, [some v0, some v1, some v2, none, none, none, none, none, none, none], [], σ) := rfl
theorem mxl_106 : mj_mL (tb ar) 106 = 10 := rfl
theorem knd_106 : mj_kd (tb ar) 106 = 0 := rfl
theorem ent_107 {v0 v1 : Value} : mj_en (tb ar) 107 [v0, v1] σ = (0, [some v0, some v1, none, none, none], [], σ) := rfl
theorem mxl_107 : mj_mL (tb ar) 107 = 5 := rfl
theorem knd_107 : mj_kd (tb ar) 107 = 0 := rfl
theorem ent_108 {v0 v1 : Value} : mj_en (tb ar) 108 [v0, v1] σ = (0, [some v0, some v1], [], σ) := rfl
theorem mxl_108 : mj_mL (tb ar) 108 = 2 := rfl
theorem knd_108 : mj_kd (tb ar) 108 = 0 := rfl
theorem ent_109 {v0 v1 : Value} : mj_en (tb ar) 109 [v0, v1] σ = (0, [some v0, some v1], [], σ) := rfl
theorem mxl_109 : mj_mL (tb ar) 109 = 2 := rfl
theorem knd_109 : mj_kd (tb ar) 109 = 0 := rfl
theorem ent_110 {v0 v1 v2 : Value} : mj_en (tb ar) 110 [v0, v1, v2] σ = (0, [some v0, some v1, some v2], [], σ) := rfl
theorem mxl_110 : mj_mL (tb ar) 110 = 3 := rfl
theorem knd_110 : mj_kd (tb ar) 110 = 0 := rfl
theorem ent_111 {v0 v1 : Value} : mj_en (tb ar) 111 [v0, v1] σ = (0, [some v0, some v1, none, none, none, none], [], σ) := rfl
theorem mxl_111 : mj_mL (tb ar) 111 = 6 := rfl
theorem knd_111 : mj_kd (tb ar) 111 = 0 := rfl
theorem ent_112 {v0 v1 : Value} : mj_en (tb ar) 112 [v0, v1] σ = (0, [some v0, some v1, none], [], σ) := rfl
theorem mxl_112 : mj_mL (tb ar) 112 = 3 := rfl
theorem knd_112 : mj_kd (tb ar) 112 = 0 := rfl
theorem ent_113 {v0 v1 : Value} : mj_en (tb ar) 113 [v0, v1] σ = (0, [some v0, some v1], [], σ) := rfl
theorem mxl_113 : mj_mL (tb ar) 113 = 2 := rfl
theorem knd_113 : mj_kd (tb ar) 113 = 0 := rfl
theorem ent_114 {v0 v1 : Value} : mj_en (tb ar) 114 [v0, v1] σ = (0, [some v0, some v1, none], [], σ) := rfl
theorem mxl_114 : mj_mL (tb ar) 114 = 3 := rfl
theorem knd_114 : mj_kd (tb ar) 114 = 0 := rfl
theorem ent_115 {v0 v1 : Value} : mj_en (tb ar) 115 [v0, v1] σ = (0, [some v0, some v1], [], σ) := rfl
theorem mxl_115 : mj_mL (tb ar) 115 = 2 := rfl
theorem knd_115 : mj_kd (tb ar) 115 = 0 := rfl
theorem ent_116 {v0 v1 : Value} : mj_en (tb ar) 116 [v0, v1] σ = (0, [some v0, some v1], [], σ) := rfl
theorem mxl_116 : mj_mL (tb ar) 116 = 2 := rfl
theorem knd_116 : mj_kd (tb ar) 116 = 0 := rfl
theorem ent_117 {v0 v1 : Value} : mj_en (tb ar) 117 [v0, v1] σ = (0, [some v0, some v1, none, none, none], [], σ) := rfl
theorem mxl_117 : mj_mL (tb ar) 117 = 5 := rfl
theorem knd_117 : mj_kd (tb ar) 117 = 0 := rfl
theorem ent_118 {v0 : Value} : mj_en (tb ar) 118 [v0] σ = (0, [some v0], [], σ) := rfl
theorem mxl_118 : mj_mL (tb ar) 118 = 1 := rfl
theorem knd_118 : mj_kd (tb ar) 118 = 0 := rfl
theorem ent_119 {v0 v1 : Value} : mj_en (tb ar) 119 [v0, v1] σ = (0, [some v0, some v1], [], σ) := rfl
theorem mxl_119 : mj_mL (tb ar) 119 = 2 := rfl
theorem knd_119 : mj_kd (tb ar) 119 = 0 := rfl
theorem ent_120 {v0 v1 v2 : Value} : mj_en (tb ar) 120 [v0, v1, v2] σ = (0, [some v0, some v1, some v2, none, none, none], [], σ) := rfl
theorem mxl_120 : mj_mL (tb ar) 120 = 6 := rfl
theorem knd_120 : mj_kd (tb ar) 120 = 0 := rfl
theorem ent_121 {v0 v1 v2 : Value} : mj_en (tb ar) 121 [v0, v1, v2] σ = (0, [some v0, some v1, some v2, none, none], [], σ) := rfl
theorem mxl_121 : mj_mL (tb ar) 121 = 5 := rfl
theorem knd_121 : mj_kd (tb ar) 121 = 0 := rfl
theorem ent_122 {v0 v1 : Value} : mj_en (tb ar) 122 [v0, v1] σ = (0, [some v0, some v1, none, none, none, none], [], σ) := rfl
theorem mxl_122 : mj_mL (tb ar) 122 = 6 := rfl
theorem knd_122 : mj_kd (tb ar) 122 = 0 := rfl
theorem ent_123 {v0 v1 : Value} : mj_en (tb ar) 123 [v0, v1] σ = (0, [some v0, some v1, none, none, none, none], [], σ) := rfl
theorem mxl_123 : mj_mL (tb ar) 123 = 6 := rfl
theorem knd_123 : mj_kd (tb ar) 123 = 0 := rfl
theorem ent_124 {v0 v1 : Value} : mj_en (tb ar) 124 [v0, v1] σ = (0, [some v0, some v1, none, none, none], [], σ) := rfl
theorem mxl_124 : mj_mL (tb ar) 124 = 5 := rfl
theorem knd_124 : mj_kd (tb ar) 124 = 0 := rfl
theorem ent_125 {v0 v1 : Value} : mj_en (tb ar) 125 [v0, v1] σ = (0, [some v0, some v1, none, none], [], σ) := rfl
theorem mxl_125 : mj_mL (tb ar) 125 = 4 := rfl
theorem knd_125 : mj_kd (tb ar) 125 = 0 := rfl
theorem ent_126 {v0 : Value} : mj_en (tb ar) 126 [v0] σ = (0, [some v0, none], [], σ) := rfl
theorem mxl_126 : mj_mL (tb ar) 126 = 2 := rfl
theorem knd_126 : mj_kd (tb ar) 126 = 0 := rfl
theorem ent_127 {v0 v1 : Value} : mj_en (tb ar) 127 [v0, v1] σ = (0, [some v0, some v1, none, none, none], [], σ) := rfl
theorem mxl_127 : mj_mL (tb ar) 127 = 5 := rfl
theorem knd_127 : mj_kd (tb ar) 127 = 0 := rfl
theorem ent_128 {v0 v1 v2 : Value} : mj_en (tb ar) 128 [v0, v1, v2] σ = (0, [some v0, some v1, some v2, none], [], σ) := rfl
theorem mxl_128 : mj_mL (tb ar) 128 = 4 := rfl
theorem knd_128 : mj_kd (tb ar) 128 = 0 := rfl
theorem ent_129 {v0 : Value} : mj_en (tb ar) 129 [v0] σ = (0, [some v0], [], σ) := rfl
theorem mxl_129 : mj_mL (tb ar) 129 = 1 := rfl
theorem knd_129 : mj_kd (tb ar) 129 = 0 := rfl
theorem ent_130 {v0 v1 v2 : Value} : mj_en (tb ar) 130 [v0, v1, v2] σ = (0, [some v0, some v1, some v2, none], [], σ) := rfl
theorem mxl_130 : mj_mL (tb ar) 130 = 4 := rfl
theorem knd_130 : mj_kd (tb ar) 130 = 0 := rfl
theorem ent_131 {v0 v1 v2 : Value} : mj_en (tb ar) 131 [v0, v1, v2] σ = (0, [some v0, some v1, some v2], [], σ) := rfl
theorem mxl_131 : mj_mL (tb ar) 131 = 3 := rfl
theorem knd_131 : mj_kd (tb ar) 131 = 0 := rfl
theorem ent_132 {v0 v1 v2 : Value} : mj_en (tb ar) 132 [v0, v1, v2] σ = (0, [some v0, some v1, some v2, none, none, none], [], σ) := rfl
theorem mxl_132 : mj_mL (tb ar) 132 = 6 := rfl
theorem knd_132 : mj_kd (tb ar) 132 = 0 := rfl
theorem ent_133 {v0 v1 v2 v3 : Value} : mj_en (tb ar) 133 [v0, v1, v2, v3] σ = (0, [some v0, some v1, some v2, some v3], [], σ) := rfl
theorem mxl_133 : mj_mL (tb ar) 133 = 4 := rfl
theorem knd_133 : mj_kd (tb ar) 133 = 0 := rfl
theorem ent_134 {v0 v1 v2 : Value} : mj_en (tb ar) 134 [v0, v1, v2] σ = (0, [some v0, some v1, some v2], [], σ) := rfl
theorem mxl_134 : mj_mL (tb ar) 134 = 3 := rfl
theorem knd_134 : mj_kd (tb ar) 134 = 0 := rfl
theorem ent_135 {v0 : Value} : mj_en (tb ar) 135 [v0] σ = (0, [some v0], [], σ) := rfl
theorem mxl_135 : mj_mL (tb ar) 135 = 1 := rfl
theorem knd_135 : mj_kd (tb ar) 135 = 0 := rfl
theorem ent_136 {v0 : Value} : mj_en (tb ar) 136 [v0] σ = (0, [some v0], [], σ) := rfl
theorem mxl_136 : mj_mL (tb ar) 136 = 1 := rfl
theorem knd_136 : mj_kd (tb ar) 136 = 1 := rfl
theorem ent_137 {v0 v1 : Value} : mj_en (tb ar) 137 [v0, v1] σ = (0, [some v0, some v1, none, none], [], σ) := rfl
theorem mxl_137 : mj_mL (tb ar) 137 = 4 := rfl
theorem knd_137 : mj_kd (tb ar) 137 = 1 := rfl
end EN
