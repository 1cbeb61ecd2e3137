theorem zK_0 : zK 0 = 6 := rfl
theorem zfv_0_0 (σ : zSt) : zfv σ 0 0 = .ref 1 := rfl
theorem zfv_0_1 (σ : zSt) : zfv σ 0 1 = .ref σ.2.2.1 := rfl
theorem zfv_0_2 (σ : zSt) : zfv σ 0 2 = .ref σ.2.2.2 := rfl
theorem zfv_0_3 (σ : zSt) : zfv σ 0 3 = .ref 24 := rfl
theorem zfv_0_4 (σ : zSt) : zfv σ 0 4 = .ref 45 := rfl
theorem zfv_0_5 (σ : zSt) : zfv σ 0 5 = .ref 46 := rfl
theorem zfv_0_6 (σ : zSt) : zfv σ 0 6 = .ref 47 := rfl
theorem zfv_0_7 (σ : zSt) : zfv σ 0 7 = .ref 60 := rfl
theorem zfv_0_8 (σ : zSt) : zfv σ 0 8 = .ref 62 := rfl
theorem zfv_0_9 (σ : zSt) : zfv σ 0 9 = .long (σ.2.1 0 9) := rfl
theorem zK_1 : zK 1 = 4 := rfl
theorem zfv_1_0 (σ : zSt) : zfv σ 1 0 = .ref 2 := rfl
theorem zfv_1_1 (σ : zSt) : zfv σ 1 1 = .int (σ.1 1 1) := rfl
theorem zfv_1_2 (σ : zSt) : zfv σ 1 2 = .int (σ.1 1 2) := rfl
theorem zfv_1_3 (σ : zSt) : zfv σ 1 3 = .int (σ.1 1 3) := rfl
theorem zfv_1_4 (σ : zSt) : zfv σ 1 4 = .int (σ.1 1 4) := rfl
theorem zfv_1_5 (σ : zSt) : zfv σ 1 5 = .int (σ.1 1 5) := rfl
theorem zfv_1_6 (σ : zSt) : zfv σ 1 6 = .ref 3 := rfl
theorem zK_2 : zK 2 = 101 := rfl
theorem zLn_2 : zLn 2 = 300 := rfl
theorem zK_3 : zK 3 = 100 := rfl
theorem zLn_3 : zLn 3 = 5 := rfl
theorem zK_4 : zK 4 = 5 := rfl
theorem zfv_4_0 (σ : zSt) : zfv σ 4 0 = .int (σ.1 4 0) := rfl
theorem zfv_4_1 (σ : zSt) : zfv σ 4 1 = .ref 5 := rfl
theorem zfv_4_2 (σ : zSt) : zfv σ 4 2 = .ref 6 := rfl
theorem zfv_4_3 (σ : zSt) : zfv σ 4 3 = .ref 7 := rfl
theorem zfv_4_4 (σ : zSt) : zfv σ 4 4 = .int (σ.1 4 4) := rfl
theorem zfv_4_5 (σ : zSt) : zfv σ 4 5 = .ref 8 := rfl
theorem zfv_4_6 (σ : zSt) : zfv σ 4 6 = .ref 9 := rfl
theorem zfv_4_7 (σ : zSt) : zfv σ 4 7 = .ref 10 := rfl
theorem zfv_4_8 (σ : zSt) : zfv σ 4 8 = .ref 11 := rfl
theorem zfv_4_9 (σ : zSt) : zfv σ 4 9 = .ref 12 := rfl
theorem zfv_4_10 (σ : zSt) : zfv σ 4 10 = .int (σ.1 4 10) := rfl
theorem zfv_4_11 (σ : zSt) : zfv σ 4 11 = .ref 13 := rfl
theorem zK_5 : zK 5 = 100 := rfl
theorem zLn_5 : zLn 5 = 4 := rfl
theorem zK_6 : zK 6 = 100 := rfl
theorem zLn_6 : zLn 6 = 4 := rfl
theorem zK_7 : zK 7 = 100 := rfl
theorem zLn_7 : zLn 7 = 4 := rfl
theorem zK_8 : zK 8 = 100 := rfl
theorem zLn_8 : zLn 8 = 8 := rfl
theorem zK_9 : zK 9 = 100 := rfl
theorem zLn_9 : zLn 9 = 8 := rfl
theorem zK_10 : zK 10 = 100 := rfl
theorem zLn_10 : zLn 10 = 8 := rfl
theorem zK_11 : zK 11 = 100 := rfl
theorem zLn_11 : zLn 11 = 8 := rfl
theorem zK_12 : zK 12 = 100 := rfl
theorem zLn_12 : zLn 12 = 8 := rfl
theorem zK_13 : zK 13 = 100 := rfl
theorem zLn_13 : zLn 13 = 8 := rfl
theorem zK_14 : zK 14 = 5 := rfl
theorem zfv_14_0 (σ : zSt) : zfv σ 14 0 = .int (σ.1 14 0) := rfl
theorem zfv_14_1 (σ : zSt) : zfv σ 14 1 = .ref 15 := rfl
theorem zfv_14_2 (σ : zSt) : zfv σ 14 2 = .ref 16 := rfl
theorem zfv_14_3 (σ : zSt) : zfv σ 14 3 = .ref 17 := rfl
theorem zfv_14_4 (σ : zSt) : zfv σ 14 4 = .int (σ.1 14 4) := rfl
theorem zfv_14_5 (σ : zSt) : zfv σ 14 5 = .ref 18 := rfl
theorem zfv_14_6 (σ : zSt) : zfv σ 14 6 = .ref 19 := rfl
theorem zfv_14_7 (σ : zSt) : zfv σ 14 7 = .ref 20 := rfl
theorem zfv_14_8 (σ : zSt) : zfv σ 14 8 = .ref 21 := rfl
theorem zfv_14_9 (σ : zSt) : zfv σ 14 9 = .ref 22 := rfl
theorem zfv_14_10 (σ : zSt) : zfv σ 14 10 = .int (σ.1 14 10) := rfl
theorem zfv_14_11 (σ : zSt) : zfv σ 14 11 = .ref 23 := rfl
theorem zK_15 : zK 15 = 100 := rfl
theorem zLn_15 : zLn 15 = 4 := rfl
theorem zK_16 : zK 16 = 100 := rfl
theorem zLn_16 : zLn 16 = 4 := rfl
theorem zK_17 : zK 17 = 100 := rfl
theorem zLn_17 : zLn 17 = 4 := rfl
theorem zK_18 : zK 18 = 100 := rfl
theorem zLn_18 : zLn 18 = 8 := rfl
theorem zK_19 : zK 19 = 100 := rfl
theorem zLn_19 : zLn 19 = 8 := rfl
theorem zK_20 : zK 20 = 100 := rfl
theorem zLn_20 : zLn 20 = 8 := rfl
theorem zK_21 : zK 21 = 100 := rfl
theorem zLn_21 : zLn 21 = 8 := rfl
theorem zK_22 : zK 22 = 100 := rfl
theorem zLn_22 : zLn 22 = 8 := rfl
theorem zK_23 : zK 23 = 100 := rfl
theorem zLn_23 : zLn 23 = 8 := rfl
theorem zK_24 : zK 24 = 2 := rfl
theorem zfv_24_0 (σ : zSt) : zfv σ 24 0 = .int (σ.1 24 0) := rfl
theorem zfv_24_1 (σ : zSt) : zfv σ 24 1 = .int (σ.1 24 1) := rfl
theorem zfv_24_2 (σ : zSt) : zfv σ 24 2 = .int (σ.1 24 2) := rfl
theorem zfv_24_3 (σ : zSt) : zfv σ 24 3 = .ref 25 := rfl
theorem zfv_24_4 (σ : zSt) : zfv σ 24 4 = .ref 26 := rfl
theorem zfv_24_5 (σ : zSt) : zfv σ 24 5 = .ref 27 := rfl
theorem zfv_24_6 (σ : zSt) : zfv σ 24 6 = .ref 28 := rfl
theorem zfv_24_7 (σ : zSt) : zfv σ 24 7 = .ref 29 := rfl
theorem zfv_24_8 (σ : zSt) : zfv σ 24 8 = .int (σ.1 24 8) := rfl
theorem zfv_24_9 (σ : zSt) : zfv σ 24 9 = .ref 30 := rfl
theorem zK_25 : zK 25 = 100 := rfl
theorem zLn_25 : zLn 25 = 8 := rfl
theorem zK_26 : zK 26 = 100 := rfl
theorem zLn_26 : zLn 26 = 8 := rfl
theorem zK_27 : zK 27 = 100 := rfl
theorem zLn_27 : zLn 27 = 8 := rfl
theorem zK_28 : zK 28 = 100 := rfl
theorem zLn_28 : zLn 28 = 4 := rfl
theorem zK_29 : zK 29 = 100 := rfl
theorem zLn_29 : zLn 29 = 20 := rfl
theorem zK_30 : zK 30 = 100 := rfl
theorem zLn_30 : zLn 30 = 60 := rfl
theorem zK_31 : zK 31 = 2 := rfl
theorem zfv_31_0 (σ : zSt) : zfv σ 31 0 = .int (σ.1 31 0) := rfl
theorem zfv_31_1 (σ : zSt) : zfv σ 31 1 = .int (σ.1 31 1) := rfl
theorem zfv_31_2 (σ : zSt) : zfv σ 31 2 = .int (σ.1 31 2) := rfl
theorem zfv_31_3 (σ : zSt) : zfv σ 31 3 = .ref 32 := rfl
theorem zfv_31_4 (σ : zSt) : zfv σ 31 4 = .ref 33 := rfl
theorem zfv_31_5 (σ : zSt) : zfv σ 31 5 = .ref 34 := rfl
theorem zfv_31_6 (σ : zSt) : zfv σ 31 6 = .ref 35 := rfl
theorem zfv_31_7 (σ : zSt) : zfv σ 31 7 = .ref 36 := rfl
theorem zfv_31_8 (σ : zSt) : zfv σ 31 8 = .int (σ.1 31 8) := rfl
theorem zfv_31_9 (σ : zSt) : zfv σ 31 9 = .ref 37 := rfl
theorem zK_32 : zK 32 = 100 := rfl
theorem zLn_32 : zLn 32 = 8 := rfl
theorem zK_33 : zK 33 = 100 := rfl
theorem zLn_33 : zLn 33 = 8 := rfl
theorem zK_34 : zK 34 = 100 := rfl
theorem zLn_34 : zLn 34 = 8 := rfl
theorem zK_35 : zK 35 = 100 := rfl
theorem zLn_35 : zLn 35 = 4 := rfl
theorem zK_36 : zK 36 = 100 := rfl
theorem zLn_36 : zLn 36 = 20 := rfl
theorem zK_37 : zK 37 = 100 := rfl
theorem zLn_37 : zLn 37 = 60 := rfl
theorem zK_38 : zK 38 = 2 := rfl
theorem zfv_38_0 (σ : zSt) : zfv σ 38 0 = .int (σ.1 38 0) := rfl
theorem zfv_38_1 (σ : zSt) : zfv σ 38 1 = .int (σ.1 38 1) := rfl
theorem zfv_38_2 (σ : zSt) : zfv σ 38 2 = .int (σ.1 38 2) := rfl
theorem zfv_38_3 (σ : zSt) : zfv σ 38 3 = .ref 39 := rfl
theorem zfv_38_4 (σ : zSt) : zfv σ 38 4 = .ref 40 := rfl
theorem zfv_38_5 (σ : zSt) : zfv σ 38 5 = .ref 41 := rfl
theorem zfv_38_6 (σ : zSt) : zfv σ 38 6 = .ref 42 := rfl
theorem zfv_38_7 (σ : zSt) : zfv σ 38 7 = .ref 43 := rfl
theorem zfv_38_8 (σ : zSt) : zfv σ 38 8 = .int (σ.1 38 8) := rfl
theorem zfv_38_9 (σ : zSt) : zfv σ 38 9 = .ref 44 := rfl
theorem zK_39 : zK 39 = 100 := rfl
theorem zLn_39 : zLn 39 = 8 := rfl
theorem zK_40 : zK 40 = 100 := rfl
theorem zLn_40 : zLn 40 = 8 := rfl
theorem zK_41 : zK 41 = 100 := rfl
theorem zLn_41 : zLn 41 = 8 := rfl
theorem zK_42 : zK 42 = 100 := rfl
theorem zLn_42 : zLn 42 = 4 := rfl
theorem zK_43 : zK 43 = 100 := rfl
theorem zLn_43 : zLn 43 = 20 := rfl
theorem zK_44 : zK 44 = 100 := rfl
theorem zLn_44 : zLn 44 = 60 := rfl
theorem zK_45 : zK 45 = 104 := rfl
theorem zLn_45 : zLn 45 = 2 := rfl
theorem zK_46 : zK 46 = 102 := rfl
theorem zLn_46 : zLn 46 = 2 := rfl
theorem zK_47 : zK 47 = 0 := rfl
theorem zfv_47_0 (σ : zSt) : zfv σ 47 0 = .ref 48 := rfl
theorem zfv_47_1 (σ : zSt) : zfv σ 47 1 = .ref 49 := rfl
theorem zfv_47_2 (σ : zSt) : zfv σ 47 2 = .ref 50 := rfl
theorem zfv_47_3 (σ : zSt) : zfv σ 47 3 = .ref 51 := rfl
theorem zfv_47_4 (σ : zSt) : zfv σ 47 4 = .ref 52 := rfl
theorem zfv_47_5 (σ : zSt) : zfv σ 47 5 = .long (σ.2.1 47 5) := rfl
theorem zfv_47_6 (σ : zSt) : zfv σ 47 6 = .long (σ.2.1 47 6) := rfl
theorem zK_48 : zK 48 = 100 := rfl
theorem zLn_48 : zLn 48 = 3 := rfl
theorem zK_49 : zK 49 = 100 := rfl
theorem zLn_49 : zLn 49 = 3 := rfl
theorem zK_50 : zK 50 = 100 := rfl
theorem zLn_50 : zLn 50 = 3 := rfl
theorem zK_51 : zK 51 = 102 := rfl
theorem zLn_51 : zLn 51 = 3 := rfl
theorem zK_52 : zK 52 = 105 := rfl
theorem zLn_52 : zLn 52 = 7 := rfl
theorem zK_53 : zK 53 = 103 := rfl
theorem zLn_53 : zLn 53 = 6 := rfl
theorem zK_54 : zK 54 = 103 := rfl
theorem zLn_54 : zLn 54 = 6 := rfl
theorem zK_55 : zK 55 = 103 := rfl
theorem zLn_55 : zLn 55 = 6 := rfl
theorem zK_56 : zK 56 = 103 := rfl
theorem zLn_56 : zLn 56 = 6 := rfl
theorem zK_57 : zK 57 = 103 := rfl
theorem zLn_57 : zLn 57 = 6 := rfl
theorem zK_58 : zK 58 = 103 := rfl
theorem zLn_58 : zLn 58 = 6 := rfl
theorem zK_59 : zK 59 = 103 := rfl
theorem zLn_59 : zLn 59 = 6 := rfl
theorem zK_60 : zK 60 = 1 := rfl
theorem zfv_60_0 (σ : zSt) : zfv σ 60 0 = .int (σ.1 60 0) := rfl
theorem zfv_60_1 (σ : zSt) : zfv σ 60 1 = .int (σ.1 60 1) := rfl
theorem zfv_60_2 (σ : zSt) : zfv σ 60 2 = .ref 61 := rfl
theorem zK_61 : zK 61 = 100 := rfl
theorem zLn_61 : zLn 61 = 8 := rfl
theorem zK_62 : zK 62 = 3 := rfl
theorem zfv_62_0 (σ : zSt) : zfv σ 62 0 = .ref 63 := rfl
theorem zK_63 : zK 63 = 100 := rfl
theorem zLn_63 : zLn 63 = 8 := rfl
theorem zK_64 : zK 64 = 7 := rfl
theorem zfv_64_0 (σ : zSt) : zfv σ 64 0 = .ref 65 := rfl
theorem zfv_64_1 (σ : zSt) : zfv σ 64 1 = .ref 66 := rfl
theorem zfv_64_2 (σ : zSt) : zfv σ 64 2 = .int (σ.1 64 2) := rfl
theorem zfv_64_3 (σ : zSt) : zfv σ 64 3 = .ref 67 := rfl
theorem zfv_64_4 (σ : zSt) : zfv σ 64 4 = .ref 68 := rfl
theorem zfv_64_5 (σ : zSt) : zfv σ 64 5 = .ref 69 := rfl
theorem zfv_64_6 (σ : zSt) : zfv σ 64 6 = .int (σ.1 64 6) := rfl
theorem zfv_64_7 (σ : zSt) : zfv σ 64 7 = .ref 70 := rfl
theorem zfv_64_8 (σ : zSt) : zfv σ 64 8 = .int (σ.1 64 8) := rfl
theorem zfv_64_9 (σ : zSt) : zfv σ 64 9 = .ref 71 := rfl
theorem zfv_64_10 (σ : zSt) : zfv σ 64 10 = .ref 72 := rfl
theorem zfv_64_11 (σ : zSt) : zfv σ 64 11 = .ref 73 := rfl
theorem zfv_64_12 (σ : zSt) : zfv σ 64 12 = .ref 74 := rfl
theorem zfv_64_13 (σ : zSt) : zfv σ 64 13 = .int (σ.1 64 13) := rfl
theorem zfv_64_14 (σ : zSt) : zfv σ 64 14 = .ref 75 := rfl
theorem zfv_64_15 (σ : zSt) : zfv σ 64 15 = .int (σ.1 64 15) := rfl
theorem zfv_64_16 (σ : zSt) : zfv σ 64 16 = .long (σ.2.1 64 16) := rfl
theorem zfv_64_17 (σ : zSt) : zfv σ 64 17 = .int (σ.1 64 17) := rfl
theorem zfv_64_18 (σ : zSt) : zfv σ 64 18 = .int (σ.1 64 18) := rfl
theorem zfv_64_19 (σ : zSt) : zfv σ 64 19 = .int (σ.1 64 19) := rfl
theorem zfv_64_20 (σ : zSt) : zfv σ 64 20 = .ref 76 := rfl
theorem zfv_64_21 (σ : zSt) : zfv σ 64 21 = .int (σ.1 64 21) := rfl
theorem zfv_64_22 (σ : zSt) : zfv σ 64 22 = .ref 77 := rfl
theorem zfv_64_23 (σ : zSt) : zfv σ 64 23 = .int (σ.1 64 23) := rfl
theorem zfv_64_24 (σ : zSt) : zfv σ 64 24 = .ref 78 := rfl
theorem zfv_64_25 (σ : zSt) : zfv σ 64 25 = .ref 79 := rfl
theorem zfv_64_26 (σ : zSt) : zfv σ 64 26 = .ref 80 := rfl
theorem zfv_64_27 (σ : zSt) : zfv σ 64 27 = .ref 81 := rfl
theorem zK_65 : zK 65 = 100 := rfl
theorem zLn_65 : zLn 65 = 300 := rfl
theorem zK_66 : zK 66 = 102 := rfl
theorem zLn_66 : zLn 66 = 2 := rfl
theorem zK_67 : zK 67 = 100 := rfl
theorem zLn_67 : zLn 67 = 4 := rfl
theorem zK_68 : zK 68 = 100 := rfl
theorem zLn_68 : zLn 68 = 4 := rfl
theorem zK_69 : zK 69 = 100 := rfl
theorem zLn_69 : zLn 69 = 4 := rfl
theorem zK_70 : zK 70 = 100 := rfl
theorem zLn_70 : zLn 70 = 40 := rfl
theorem zK_71 : zK 71 = 100 := rfl
theorem zLn_71 : zLn 71 = 16 := rfl
theorem zK_72 : zK 72 = 100 := rfl
theorem zLn_72 : zLn 72 = 3 := rfl
theorem zK_73 : zK 73 = 100 := rfl
theorem zLn_73 : zLn 73 = 3 := rfl
theorem zK_74 : zK 74 = 100 := rfl
theorem zLn_74 : zLn 74 = 3 := rfl
theorem zK_75 : zK 75 = 100 := rfl
theorem zLn_75 : zLn 75 = 300 := rfl
theorem zK_76 : zK 76 = 100 := rfl
theorem zLn_76 : zLn 76 = 12 := rfl
theorem zK_77 : zK 77 = 100 := rfl
theorem zLn_77 : zLn 77 = 40 := rfl
theorem zK_78 : zK 78 = 100 := rfl
theorem zLn_78 : zLn 78 = 16 := rfl
theorem zK_79 : zK 79 = 100 := rfl
theorem zLn_79 : zLn 79 = 8 := rfl
theorem zK_80 : zK 80 = 103 := rfl
theorem zLn_80 : zLn 80 = 12 := rfl
theorem zK_81 : zK 81 = 103 := rfl
theorem zLn_81 : zLn 81 = 12 := rfl
theorem ycall {d a : Nat} {as : List Value} {σ : zSt} {P F : Option Value → zSt → Prop} (h : yC d a as σ P) (k : ∀ r σ', P r σ' → F r σ') : ∃ rv σ', yE d a as σ rv σ' ∧ F rv σ' := by
  obtain ⟨r, σ', h1, h2⟩ := h
  exact ⟨r, σ', h1, k r σ' h2⟩
theorem zlk_hit {i : Nat} {v : Value} {l : zLv} : zlk ((i, v) :: l) i = some v := if_pos rfl
theorem zlk_miss {i j : Nat} {v : Value} {l : zLv} (h : ¬ j = i) : zlk ((j, v) :: l) i = zlk l i := if_neg h
theorem zdup_i {x : Int32} {r : List Value} {F : List Value → Prop} : zdup (.int x :: r) F = F (.int x :: .int x :: r) := rfl
theorem zdup_r {x : Nat} {r : List Value} {F : List Value → Prop} : zdup (.ref x :: r) F = F (.ref x :: .ref x :: r) := rfl
theorem zdup2_i {x : Int32} {y : Nat} {r : List Value} {F : List Value → Prop} : zdup2 (.int x :: .ref y :: r) F = F (.int x :: .ref y :: .int x :: .ref y :: r) := rfl
theorem zdup2_l {x : Int64} {r : List Value} {F : List Value → Prop} : zdup2 (.long x :: r) F = F (.long x :: .long x :: r) := rfl
theorem wA1 (σ : zSt) (c c' : Nat) (f : Nat → Int32) : (zwA σ c f).1 c' = if c' = c then f else σ.1 c' := rfl
theorem wA2 (σ : zSt) (c : Nat) (f : Nat → Int32) : (zwA σ c f).2 = σ.2 := rfl
theorem wI1 (σ : zSt) (c c' k : Nat) (v : Int32) : (zwI σ c k v).1 c' = if c' = c then upd (σ.1 c) k v else σ.1 c' := rfl
theorem wI2 (σ : zSt) (c k : Nat) (v : Int32) : (zwI σ c k v).2 = σ.2 := rfl
theorem wJ1 (σ : zSt) (c k : Nat) (v : Int64) : (zwJ σ c k v).1 = σ.1 := rfl
theorem wJ2 (σ : zSt) (c c' k : Nat) (v : Int64) : (zwJ σ c k v).2.1 c' = if c' = c then vp_updL (σ.2.1 c) k v else σ.2.1 c' := rfl
theorem wJ3 (σ : zSt) (c k : Nat) (v : Int64) : (zwJ σ c k v).2.2 = σ.2.2 := rfl
theorem wR1 (σ : zSt) (k v : Nat) : (zwR σ k v).1 = σ.1 := rfl
theorem wR2 (σ : zSt) (k v : Nat) : (zwR σ k v).2.1 = σ.2.1 := rfl
theorem wR31 (σ : zSt) (v : Nat) : (zwR σ 1 v).2.2 = (v, σ.2.2.2) := rfl
theorem wR32 (σ : zSt) (v : Nat) : (zwR σ 2 v).2.2 = (σ.2.2.1, v) := rfl
