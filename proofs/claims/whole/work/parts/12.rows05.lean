def Y103 (d : Nat) (Q : Option Value → zSt → Prop) (pc : Nat) (lv : zLv) (st : List Value) (σ : zSt) : Prop := yX (yE d) ySn zt103 Q pc lv st σ
theorem C103 {d : Nat} {as : List Value} {σ : zSt} {P : Option Value → zSt → Prop} (hl : (lg_sl as).length ≤ 2) (h : Y103 d P 0 (lv_args 0 as) [] σ) : yC (d + 1) 103 as σ P := yC_of (by decide) hl h
section G103
variable {d : Nat} {Q : Option Value → zSt → Prop} {lv : zLv} {st : List Value} {σ : zSt}
theorem g103_0  : Y103 d Q 0 lv st σ ↔ zldR lv 0 (fun x => Y103 d Q 1 lv (.ref x :: st) σ) := yX_at (.aload_n 0, 1, 0, 0, 0, 0, []) rfl
theorem g103_1  : Y103 d Q 1 lv st σ ↔ Y103 d Q 2 lv (.int 0 :: st) σ := yX_at (.iconst 0, 1, 0, 0, 0, 0, []) rfl
theorem g103_2 {x : Int32} {c : Nat} : Y103 d Q 2 lv (.int x :: .ref c :: st) σ ↔ zK c = 7 ∧ Y103 d Q 5 lv st (zwI σ c 17 x) := yX_at (.putfield 81, 3, 7, 17, 192, 0, []) rfl
theorem g103_5  : Y103 d Q 5 lv st σ ↔ zldR lv 0 (fun x => Y103 d Q 6 lv (.ref x :: st) σ) := yX_at (.aload_n 0, 1, 0, 0, 0, 0, []) rfl
theorem g103_6  : Y103 d Q 6 lv st σ ↔ Y103 d Q 8 lv (.int (-9) :: st) σ := by
  rw [show (-9 : Int32) = (Int8.ofInt (-9)).toInt32 from by decide]
  exact yX_at (.bipush (-9), 2, 0, 0, 0, 0, []) rfl
theorem g103_8 {x : Int32} {c : Nat} : Y103 d Q 8 lv (.int x :: .ref c :: st) σ ↔ zK c = 7 ∧ Y103 d Q 11 lv st (zwI σ c 18 x) := yX_at (.putfield 84, 3, 7, 18, 193, 0, []) rfl
theorem g103_11  : Y103 d Q 11 lv st σ ↔ zldR lv 0 (fun x => Y103 d Q 12 lv (.ref x :: st) σ) := yX_at (.aload_n 0, 1, 0, 0, 0, 0, []) rfl
theorem g103_12  : Y103 d Q 12 lv st σ ↔ Y103 d Q 13 lv (.int 0 :: st) σ := yX_at (.iconst 0, 1, 0, 0, 0, 0, []) rfl
theorem g103_13 {x : Int32} {c : Nat} : Y103 d Q 13 lv (.int x :: .ref c :: st) σ ↔ zK c = 7 ∧ Y103 d Q 16 lv st (zwI σ c 19 x) := yX_at (.putfield 113, 3, 7, 19, 204, 0, []) rfl
theorem g103_16  : Y103 d Q 16 lv st σ ↔ zldR lv 0 (fun x => Y103 d Q 17 lv (.ref x :: st) σ) := yX_at (.aload_n 0, 1, 0, 0, 0, 0, []) rfl
theorem g103_17  : Y103 d Q 17 lv st σ ↔ Y103 d Q 18 lv (.int 0 :: st) σ := yX_at (.iconst 0, 1, 0, 0, 0, 0, []) rfl
theorem g103_18 {x : Int32} {c : Nat} : Y103 d Q 18 lv (.int x :: .ref c :: st) σ ↔ zK c = 7 ∧ Y103 d Q 21 lv st (zwI σ c 21 x) := yX_at (.putfield 122, 3, 7, 21, 208, 0, []) rfl
theorem g103_21  : Y103 d Q 21 lv st σ ↔ zldR lv 0 (fun x => Y103 d Q 22 lv (.ref x :: st) σ) := yX_at (.aload_n 0, 1, 0, 0, 0, 0, []) rfl
theorem g103_22  : Y103 d Q 22 lv st σ ↔ Y103 d Q 23 lv (.int 0 :: st) σ := yX_at (.iconst 0, 1, 0, 0, 0, 0, []) rfl
theorem g103_23 {x : Int32} {c : Nat} : Y103 d Q 23 lv (.int x :: .ref c :: st) σ ↔ zK c = 7 ∧ Y103 d Q 26 lv st (zwI σ c 23 x) := yX_at (.putfield 127, 3, 7, 23, 211, 0, []) rfl
theorem g103_26  : Y103 d Q 26 lv st σ ↔ zldR lv 0 (fun x => Y103 d Q 27 lv (.ref x :: st) σ) := yX_at (.aload_n 0, 1, 0, 0, 0, 0, []) rfl
theorem g103_27 {c : Nat} : Y103 d Q 27 lv (.ref c :: st) σ ↔ zK c = 7 ∧ Y103 d Q 30 lv (zfv σ c 18 :: st) σ := yX_at (.getfield 84, 3, 7, 18, 193, 0, []) rfl
theorem g103_30 {x : Int32} : Y103 d Q 30 lv (.int x :: st) σ ↔ (0 ≤ x → Y103 d Q 47 lv st σ) ∧ (¬ 0 ≤ x → Y103 d Q 33 lv st σ) := yX_at (.ifCond .ge 17, 3, 47, 0, 0, 0, []) rfl
theorem g103_33  : Y103 d Q 33 lv st σ ↔ zldR lv 0 (fun x => Y103 d Q 34 lv (.ref x :: st) σ) := yX_at (.aload_n 0, 1, 0, 0, 0, 0, []) rfl
theorem g103_34 {c : Nat} : Y103 d Q 34 lv (.ref c :: st) σ ↔ (zrcv 7 c ∧ zrm st) ∧ ∃ rv σ', yE d 99 [.ref c] σ rv σ' ∧ Y103 d Q 37 lv (rv.toList ++ st) σ' := yX_at (.invokevirtual 87, 3, 99, 0, 194, 0, []) rfl
theorem g103_37 {x : Int32} : Y103 d Q 37 lv (.int x :: st) σ ↔ (¬ x = 0 → Y103 d Q 47 lv st σ) ∧ (x = 0 → Y103 d Q 40 lv st σ) := yX_at (.ifCond .ne 10, 3, 47, 0, 0, 0, []) rfl
theorem g103_40  : Y103 d Q 40 lv st σ ↔ zldR lv 0 (fun x => Y103 d Q 41 lv (.ref x :: st) σ) := yX_at (.aload_n 0, 1, 0, 0, 0, 0, []) rfl
theorem g103_41 {c : Nat} : Y103 d Q 41 lv (.ref c :: st) σ ↔ (zrcv 7 c ∧ zrm st) ∧ ∃ rv σ', yE d 102 [.ref c] σ rv σ' ∧ Y103 d Q 44 lv (rv.toList ++ st) σ' := yX_at (.invokevirtual 130, 3, 102, 0, 213, 0, []) rfl
theorem g103_44  : Y103 d Q 44 lv st σ ↔ Y103 d Q 26 lv st σ := yX_at (.goto (-18), 3, 26, 0, 0, 0, []) rfl
theorem g103_47  : Y103 d Q 47 lv st σ ↔ zldR lv 0 (fun x => Y103 d Q 48 lv (.ref x :: st) σ) := yX_at (.aload_n 0, 1, 0, 0, 0, 0, []) rfl
theorem g103_48 {c : Nat} : Y103 d Q 48 lv (.ref c :: st) σ ↔ zK c = 7 ∧ Y103 d Q 51 lv (zfv σ c 18 :: st) σ := yX_at (.getfield 84, 3, 7, 18, 193, 0, []) rfl
theorem g103_51 {x : Int32} : Y103 d Q 51 lv (.int x :: st) σ ↔ (x < 0 → Y103 d Q 62 lv st σ) ∧ (¬ x < 0 → Y103 d Q 54 lv st σ) := yX_at (.ifCond .lt 11, 3, 62, 0, 0, 0, []) rfl
theorem g103_54  : Y103 d Q 54 lv st σ ↔ Y103 d Q 56 lv (.int (-10) :: st) σ := by
  rw [show (-10 : Int32) = (Int8.ofInt (-10)).toInt32 from by decide]
  exact yX_at (.bipush (-10), 2, 0, 0, 0, 0, []) rfl
theorem g103_56  : Y103 d Q 56 lv st σ ↔ zldR lv 0 (fun x => Y103 d Q 57 lv (.ref x :: st) σ) := yX_at (.aload_n 0, 1, 0, 0, 0, 0, []) rfl
theorem g103_57 {c : Nat} : Y103 d Q 57 lv (.ref c :: st) σ ↔ zK c = 7 ∧ Y103 d Q 60 lv (zfv σ c 18 :: st) σ := yX_at (.getfield 84, 3, 7, 18, 193, 0, []) rfl
theorem g103_60 {x y : Int32} : Y103 d Q 60 lv (.int y :: .int x :: st) σ ↔ Y103 d Q 61 lv (.int (x - y) :: st) σ := yX_at (.isub, 1, 0, 0, 0, 0, []) rfl
theorem g103_61 {x : Int32} : Y103 d Q 61 lv [.int x] σ ↔ Q (some (.int x)) σ := yX_at (.ireturn, 1, 0, 0, 0, 0, []) rfl
theorem g103_62  : Y103 d Q 62 lv st σ ↔ zldR lv 0 (fun x => Y103 d Q 63 lv (.ref x :: st) σ) := yX_at (.aload_n 0, 1, 0, 0, 0, 0, []) rfl
theorem g103_63  : Y103 d Q 63 lv st σ ↔ zldR lv 0 (fun x => Y103 d Q 64 lv (.ref x :: st) σ) := yX_at (.aload_n 0, 1, 0, 0, 0, 0, []) rfl
theorem g103_64 {c : Nat} : Y103 d Q 64 lv (.ref c :: st) σ ↔ zK c = 7 ∧ Y103 d Q 67 lv (zfv σ c 19 :: st) σ := yX_at (.getfield 113, 3, 7, 19, 204, 0, []) rfl
theorem g103_67 {x : Int32} {c : Nat} : Y103 d Q 67 lv (.int x :: .ref c :: st) σ ↔ zK c = 7 ∧ Y103 d Q 70 lv st (zwI σ c 2 x) := yX_at (.putfield 63, 3, 7, 2, 185, 0, []) rfl
theorem g103_70  : Y103 d Q 70 lv st σ ↔ Y103 d Q 71 lv (.int 0 :: st) σ := yX_at (.iconst 0, 1, 0, 0, 0, 0, []) rfl
theorem g103_71 {x : Int32} : Y103 d Q 71 lv (.int x :: st) σ ↔ Y103 d Q 72 (zs1 1 (.int x) lv) st σ := yX_at (.istore_n 1, 1, 0, 0, 0, 0, []) rfl
theorem g103_72  : Y103 d Q 72 lv st σ ↔ zldI lv 1 (fun x => Y103 d Q 73 lv (.int x :: st) σ) := yX_at (.iload_n 1, 1, 0, 0, 0, 0, []) rfl
theorem g103_73  : Y103 d Q 73 lv st σ ↔ zldR lv 0 (fun x => Y103 d Q 74 lv (.ref x :: st) σ) := yX_at (.aload_n 0, 1, 0, 0, 0, 0, []) rfl
theorem g103_74 {c : Nat} : Y103 d Q 74 lv (.ref c :: st) σ ↔ zK c = 7 ∧ Y103 d Q 77 lv (zfv σ c 2 :: st) σ := yX_at (.getfield 63, 3, 7, 2, 185, 0, []) rfl
theorem g103_77 {x y : Int32} : Y103 d Q 77 lv (.int y :: .int x :: st) σ ↔ (y ≤ x → Y103 d Q 132 lv st σ) ∧ (¬ y ≤ x → Y103 d Q 80 lv st σ) := yX_at (.if_icmp .ge 55, 3, 132, 0, 0, 0, []) rfl
theorem g103_80  : Y103 d Q 80 lv st σ ↔ zldR lv 0 (fun x => Y103 d Q 81 lv (.ref x :: st) σ) := yX_at (.aload_n 0, 1, 0, 0, 0, 0, []) rfl
theorem g103_81 {c : Nat} : Y103 d Q 81 lv (.ref c :: st) σ ↔ zK c = 7 ∧ Y103 d Q 84 lv (zfv σ c 3 :: st) σ := yX_at (.getfield 17, 3, 7, 3, 214, 0, []) rfl
theorem g103_84  : Y103 d Q 84 lv st σ ↔ zldI lv 1 (fun x => Y103 d Q 85 lv (.int x :: st) σ) := yX_at (.iload_n 1, 1, 0, 0, 0, 0, []) rfl
theorem g103_85  : Y103 d Q 85 lv st σ ↔ zldR lv 0 (fun x => Y103 d Q 86 lv (.ref x :: st) σ) := yX_at (.aload_n 0, 1, 0, 0, 0, 0, []) rfl
theorem g103_86 {c : Nat} : Y103 d Q 86 lv (.ref c :: st) σ ↔ zK c = 7 ∧ Y103 d Q 89 lv (zfv σ c 20 :: st) σ := yX_at (.getfield 44, 3, 7, 20, 205, 0, []) rfl
theorem g103_89  : Y103 d Q 89 lv st σ ↔ Y103 d Q 90 lv (.int 3 :: st) σ := yX_at (.iconst 3, 1, 0, 0, 0, 0, []) rfl
theorem g103_90  : Y103 d Q 90 lv st σ ↔ zldI lv 1 (fun x => Y103 d Q 91 lv (.int x :: st) σ) := yX_at (.iload_n 1, 1, 0, 0, 0, 0, []) rfl
theorem g103_91 {x y : Int32} : Y103 d Q 91 lv (.int y :: .int x :: st) σ ↔ Y103 d Q 92 lv (.int (x * y) :: st) σ := yX_at (.imul, 1, 0, 0, 0, 0, []) rfl
theorem g103_92 {j : Int32} {c : Nat} : Y103 d Q 92 lv (.int j :: .ref c :: st) σ ↔ (zK c = 100 ∧ vp_in j (zLn c)) ∧ Y103 d Q 93 lv (.int (σ.1 c j.toNatClampNeg) :: st) σ := yX_at (.iaload, 1, 0, 0, 0, 0, []) rfl
theorem g103_93 {x j : Int32} {c : Nat} : Y103 d Q 93 lv (.int x :: .int j :: .ref c :: st) σ ↔ (zK c = 100 ∧ vp_in j (zLn c)) ∧ Y103 d Q 94 lv st (zwI σ c j.toNatClampNeg x) := yX_at (.iastore, 1, 0, 0, 0, 0, []) rfl
theorem g103_94  : Y103 d Q 94 lv st σ ↔ zldR lv 0 (fun x => Y103 d Q 95 lv (.ref x :: st) σ) := yX_at (.aload_n 0, 1, 0, 0, 0, 0, []) rfl
theorem g103_95 {c : Nat} : Y103 d Q 95 lv (.ref c :: st) σ ↔ zK c = 7 ∧ Y103 d Q 98 lv (zfv σ c 4 :: st) σ := yX_at (.getfield 20, 3, 7, 4, 215, 0, []) rfl
theorem g103_98  : Y103 d Q 98 lv st σ ↔ zldI lv 1 (fun x => Y103 d Q 99 lv (.int x :: st) σ) := yX_at (.iload_n 1, 1, 0, 0, 0, 0, []) rfl
theorem g103_99  : Y103 d Q 99 lv st σ ↔ zldR lv 0 (fun x => Y103 d Q 100 lv (.ref x :: st) σ) := yX_at (.aload_n 0, 1, 0, 0, 0, 0, []) rfl
theorem g103_100 {c : Nat} : Y103 d Q 100 lv (.ref c :: st) σ ↔ zK c = 7 ∧ Y103 d Q 103 lv (zfv σ c 20 :: st) σ := yX_at (.getfield 44, 3, 7, 20, 205, 0, []) rfl
theorem g103_103  : Y103 d Q 103 lv st σ ↔ Y103 d Q 104 lv (.int 3 :: st) σ := yX_at (.iconst 3, 1, 0, 0, 0, 0, []) rfl
theorem g103_104  : Y103 d Q 104 lv st σ ↔ zldI lv 1 (fun x => Y103 d Q 105 lv (.int x :: st) σ) := yX_at (.iload_n 1, 1, 0, 0, 0, 0, []) rfl
theorem g103_105 {x y : Int32} : Y103 d Q 105 lv (.int y :: .int x :: st) σ ↔ Y103 d Q 106 lv (.int (x * y) :: st) σ := yX_at (.imul, 1, 0, 0, 0, 0, []) rfl
theorem g103_106  : Y103 d Q 106 lv st σ ↔ Y103 d Q 107 lv (.int 1 :: st) σ := yX_at (.iconst 1, 1, 0, 0, 0, 0, []) rfl
theorem g103_107 {x y : Int32} : Y103 d Q 107 lv (.int y :: .int x :: st) σ ↔ Y103 d Q 108 lv (.int (x + y) :: st) σ := yX_at (.iadd, 1, 0, 0, 0, 0, []) rfl
theorem g103_108 {j : Int32} {c : Nat} : Y103 d Q 108 lv (.int j :: .ref c :: st) σ ↔ (zK c = 100 ∧ vp_in j (zLn c)) ∧ Y103 d Q 109 lv (.int (σ.1 c j.toNatClampNeg) :: st) σ := yX_at (.iaload, 1, 0, 0, 0, 0, []) rfl
theorem g103_109 {x j : Int32} {c : Nat} : Y103 d Q 109 lv (.int x :: .int j :: .ref c :: st) σ ↔ (zK c = 100 ∧ vp_in j (zLn c)) ∧ Y103 d Q 110 lv st (zwI σ c j.toNatClampNeg x) := yX_at (.iastore, 1, 0, 0, 0, 0, []) rfl
theorem g103_110  : Y103 d Q 110 lv st σ ↔ zldR lv 0 (fun x => Y103 d Q 111 lv (.ref x :: st) σ) := yX_at (.aload_n 0, 1, 0, 0, 0, 0, []) rfl
theorem g103_111 {c : Nat} : Y103 d Q 111 lv (.ref c :: st) σ ↔ zK c = 7 ∧ Y103 d Q 114 lv (zfv σ c 5 :: st) σ := yX_at (.getfield 23, 3, 7, 5, 216, 0, []) rfl
theorem g103_114  : Y103 d Q 114 lv st σ ↔ zldI lv 1 (fun x => Y103 d Q 115 lv (.int x :: st) σ) := yX_at (.iload_n 1, 1, 0, 0, 0, 0, []) rfl
theorem g103_115  : Y103 d Q 115 lv st σ ↔ zldR lv 0 (fun x => Y103 d Q 116 lv (.ref x :: st) σ) := yX_at (.aload_n 0, 1, 0, 0, 0, 0, []) rfl
theorem g103_116 {c : Nat} : Y103 d Q 116 lv (.ref c :: st) σ ↔ zK c = 7 ∧ Y103 d Q 119 lv (zfv σ c 20 :: st) σ := yX_at (.getfield 44, 3, 7, 20, 205, 0, []) rfl
theorem g103_119  : Y103 d Q 119 lv st σ ↔ Y103 d Q 120 lv (.int 3 :: st) σ := yX_at (.iconst 3, 1, 0, 0, 0, 0, []) rfl
theorem g103_120  : Y103 d Q 120 lv st σ ↔ zldI lv 1 (fun x => Y103 d Q 121 lv (.int x :: st) σ) := yX_at (.iload_n 1, 1, 0, 0, 0, 0, []) rfl
theorem g103_121 {x y : Int32} : Y103 d Q 121 lv (.int y :: .int x :: st) σ ↔ Y103 d Q 122 lv (.int (x * y) :: st) σ := yX_at (.imul, 1, 0, 0, 0, 0, []) rfl
theorem g103_122  : Y103 d Q 122 lv st σ ↔ Y103 d Q 123 lv (.int 2 :: st) σ := yX_at (.iconst 2, 1, 0, 0, 0, 0, []) rfl
theorem g103_123 {x y : Int32} : Y103 d Q 123 lv (.int y :: .int x :: st) σ ↔ Y103 d Q 124 lv (.int (x + y) :: st) σ := yX_at (.iadd, 1, 0, 0, 0, 0, []) rfl
theorem g103_124 {j : Int32} {c : Nat} : Y103 d Q 124 lv (.int j :: .ref c :: st) σ ↔ (zK c = 100 ∧ vp_in j (zLn c)) ∧ Y103 d Q 125 lv (.int (σ.1 c j.toNatClampNeg) :: st) σ := yX_at (.iaload, 1, 0, 0, 0, 0, []) rfl
theorem g103_125 {x j : Int32} {c : Nat} : Y103 d Q 125 lv (.int x :: .int j :: .ref c :: st) σ ↔ (zK c = 100 ∧ vp_in j (zLn c)) ∧ Y103 d Q 126 lv st (zwI σ c j.toNatClampNeg x) := yX_at (.iastore, 1, 0, 0, 0, 0, []) rfl
theorem g103_126  : Y103 d Q 126 lv st σ ↔ zldI lv 1 (fun x => Y103 d Q 129 (zs1 1 (.int (x + 1)) lv) st σ) := yX_at (.iinc 1 1, 3, 0, 0, 0, 0, []) rfl
theorem g103_129  : Y103 d Q 129 lv st σ ↔ Y103 d Q 72 lv st σ := yX_at (.goto (-57), 3, 72, 0, 0, 0, []) rfl
theorem g103_132  : Y103 d Q 132 lv st σ ↔ zldR lv 0 (fun x => Y103 d Q 133 lv (.ref x :: st) σ) := yX_at (.aload_n 0, 1, 0, 0, 0, 0, []) rfl
theorem g103_133  : Y103 d Q 133 lv st σ ↔ zldR lv 0 (fun x => Y103 d Q 134 lv (.ref x :: st) σ) := yX_at (.aload_n 0, 1, 0, 0, 0, 0, []) rfl
theorem g103_134 {c : Nat} : Y103 d Q 134 lv (.ref c :: st) σ ↔ zK c = 7 ∧ Y103 d Q 137 lv (zfv σ c 21 :: st) σ := yX_at (.getfield 122, 3, 7, 21, 208, 0, []) rfl
theorem g103_137 {x : Int32} {c : Nat} : Y103 d Q 137 lv (.int x :: .ref c :: st) σ ↔ zK c = 7 ∧ Y103 d Q 140 lv st (zwI σ c 6 x) := yX_at (.putfield 71, 3, 7, 6, 187, 0, []) rfl
theorem g103_140  : Y103 d Q 140 lv st σ ↔ Y103 d Q 141 lv (.int 0 :: st) σ := yX_at (.iconst 0, 1, 0, 0, 0, 0, []) rfl
theorem g103_141 {x : Int32} : Y103 d Q 141 lv (.int x :: st) σ ↔ Y103 d Q 142 (zs1 1 (.int x) lv) st σ := yX_at (.istore_n 1, 1, 0, 0, 0, 0, []) rfl
theorem g103_142  : Y103 d Q 142 lv st σ ↔ zldI lv 1 (fun x => Y103 d Q 143 lv (.int x :: st) σ) := yX_at (.iload_n 1, 1, 0, 0, 0, 0, []) rfl
theorem g103_143  : Y103 d Q 143 lv st σ ↔ Y103 d Q 144 lv (.int 5 :: st) σ := yX_at (.iconst 5, 1, 0, 0, 0, 0, []) rfl
theorem g103_144  : Y103 d Q 144 lv st σ ↔ zldR lv 0 (fun x => Y103 d Q 145 lv (.ref x :: st) σ) := yX_at (.aload_n 0, 1, 0, 0, 0, 0, []) rfl
theorem g103_145 {c : Nat} : Y103 d Q 145 lv (.ref c :: st) σ ↔ zK c = 7 ∧ Y103 d Q 148 lv (zfv σ c 6 :: st) σ := yX_at (.getfield 71, 3, 7, 6, 187, 0, []) rfl
theorem g103_148 {x y : Int32} : Y103 d Q 148 lv (.int y :: .int x :: st) σ ↔ Y103 d Q 149 lv (.int (x * y) :: st) σ := yX_at (.imul, 1, 0, 0, 0, 0, []) rfl
theorem g103_149 {x y : Int32} : Y103 d Q 149 lv (.int y :: .int x :: st) σ ↔ (y ≤ x → Y103 d Q 170 lv st σ) ∧ (¬ y ≤ x → Y103 d Q 152 lv st σ) := yX_at (.if_icmp .ge 21, 3, 170, 0, 0, 0, []) rfl
theorem g103_152  : Y103 d Q 152 lv st σ ↔ zldR lv 0 (fun x => Y103 d Q 153 lv (.ref x :: st) σ) := yX_at (.aload_n 0, 1, 0, 0, 0, 0, []) rfl
theorem g103_153 {c : Nat} : Y103 d Q 153 lv (.ref c :: st) σ ↔ zK c = 7 ∧ Y103 d Q 156 lv (zfv σ c 7 :: st) σ := yX_at (.getfield 26, 3, 7, 7, 217, 0, []) rfl
theorem g103_156  : Y103 d Q 156 lv st σ ↔ zldI lv 1 (fun x => Y103 d Q 157 lv (.int x :: st) σ) := yX_at (.iload_n 1, 1, 0, 0, 0, 0, []) rfl
theorem g103_157  : Y103 d Q 157 lv st σ ↔ zldR lv 0 (fun x => Y103 d Q 158 lv (.ref x :: st) σ) := yX_at (.aload_n 0, 1, 0, 0, 0, 0, []) rfl
theorem g103_158 {c : Nat} : Y103 d Q 158 lv (.ref c :: st) σ ↔ zK c = 7 ∧ Y103 d Q 161 lv (zfv σ c 22 :: st) σ := yX_at (.getfield 47, 3, 7, 22, 209, 0, []) rfl
theorem g103_161  : Y103 d Q 161 lv st σ ↔ zldI lv 1 (fun x => Y103 d Q 162 lv (.int x :: st) σ) := yX_at (.iload_n 1, 1, 0, 0, 0, 0, []) rfl
theorem g103_162 {j : Int32} {c : Nat} : Y103 d Q 162 lv (.int j :: .ref c :: st) σ ↔ (zK c = 100 ∧ vp_in j (zLn c)) ∧ Y103 d Q 163 lv (.int (σ.1 c j.toNatClampNeg) :: st) σ := yX_at (.iaload, 1, 0, 0, 0, 0, []) rfl
theorem g103_163 {x j : Int32} {c : Nat} : Y103 d Q 163 lv (.int x :: .int j :: .ref c :: st) σ ↔ (zK c = 100 ∧ vp_in j (zLn c)) ∧ Y103 d Q 164 lv st (zwI σ c j.toNatClampNeg x) := yX_at (.iastore, 1, 0, 0, 0, 0, []) rfl
theorem g103_164  : Y103 d Q 164 lv st σ ↔ zldI lv 1 (fun x => Y103 d Q 167 (zs1 1 (.int (x + 1)) lv) st σ) := yX_at (.iinc 1 1, 3, 0, 0, 0, 0, []) rfl
theorem g103_167  : Y103 d Q 167 lv st σ ↔ Y103 d Q 142 lv st σ := yX_at (.goto (-25), 3, 142, 0, 0, 0, []) rfl
theorem g103_170  : Y103 d Q 170 lv st σ ↔ zldR lv 0 (fun x => Y103 d Q 171 lv (.ref x :: st) σ) := yX_at (.aload_n 0, 1, 0, 0, 0, 0, []) rfl
theorem g103_171  : Y103 d Q 171 lv st σ ↔ zldR lv 0 (fun x => Y103 d Q 172 lv (.ref x :: st) σ) := yX_at (.aload_n 0, 1, 0, 0, 0, 0, []) rfl
theorem g103_172 {c : Nat} : Y103 d Q 172 lv (.ref c :: st) σ ↔ zK c = 7 ∧ Y103 d Q 175 lv (zfv σ c 23 :: st) σ := yX_at (.getfield 127, 3, 7, 23, 211, 0, []) rfl
theorem g103_175 {x : Int32} {c : Nat} : Y103 d Q 175 lv (.int x :: .ref c :: st) σ ↔ zK c = 7 ∧ Y103 d Q 178 lv st (zwI σ c 8 x) := yX_at (.putfield 133, 3, 7, 8, 218, 0, []) rfl
theorem g103_178  : Y103 d Q 178 lv st σ ↔ Y103 d Q 179 lv (.int 0 :: st) σ := yX_at (.iconst 0, 1, 0, 0, 0, 0, []) rfl
theorem g103_179 {x : Int32} : Y103 d Q 179 lv (.int x :: st) σ ↔ Y103 d Q 180 (zs1 1 (.int x) lv) st σ := yX_at (.istore_n 1, 1, 0, 0, 0, 0, []) rfl
theorem g103_180  : Y103 d Q 180 lv st σ ↔ zldI lv 1 (fun x => Y103 d Q 181 lv (.int x :: st) σ) := yX_at (.iload_n 1, 1, 0, 0, 0, 0, []) rfl
theorem g103_181  : Y103 d Q 181 lv st σ ↔ Y103 d Q 182 lv (.int 2 :: st) σ := yX_at (.iconst 2, 1, 0, 0, 0, 0, []) rfl
theorem g103_182  : Y103 d Q 182 lv st σ ↔ zldR lv 0 (fun x => Y103 d Q 183 lv (.ref x :: st) σ) := yX_at (.aload_n 0, 1, 0, 0, 0, 0, []) rfl
theorem g103_183 {c : Nat} : Y103 d Q 183 lv (.ref c :: st) σ ↔ zK c = 7 ∧ Y103 d Q 186 lv (zfv σ c 8 :: st) σ := yX_at (.getfield 133, 3, 7, 8, 218, 0, []) rfl
theorem g103_186 {x y : Int32} : Y103 d Q 186 lv (.int y :: .int x :: st) σ ↔ Y103 d Q 187 lv (.int (x * y) :: st) σ := yX_at (.imul, 1, 0, 0, 0, 0, []) rfl
set_option maxRecDepth 20000 in
theorem g103_187 {x y : Int32} : Y103 d Q 187 lv (.int y :: .int x :: st) σ ↔ (y ≤ x → Y103 d Q 208 lv st σ) ∧ (¬ y ≤ x → Y103 d Q 190 lv st σ) := yX_at (.if_icmp .ge 21, 3, 208, 0, 0, 0, []) rfl
set_option maxRecDepth 20000 in
theorem g103_190  : Y103 d Q 190 lv st σ ↔ zldR lv 0 (fun x => Y103 d Q 191 lv (.ref x :: st) σ) := yX_at (.aload_n 0, 1, 0, 0, 0, 0, []) rfl
set_option maxRecDepth 20000 in
theorem g103_191 {c : Nat} : Y103 d Q 191 lv (.ref c :: st) σ ↔ zK c = 7 ∧ Y103 d Q 194 lv (zfv σ c 9 :: st) σ := yX_at (.getfield 29, 3, 7, 9, 219, 0, []) rfl
set_option maxRecDepth 20000 in
theorem g103_194  : Y103 d Q 194 lv st σ ↔ zldI lv 1 (fun x => Y103 d Q 195 lv (.int x :: st) σ) := yX_at (.iload_n 1, 1, 0, 0, 0, 0, []) rfl
set_option maxRecDepth 20000 in
theorem g103_195  : Y103 d Q 195 lv st σ ↔ zldR lv 0 (fun x => Y103 d Q 196 lv (.ref x :: st) σ) := yX_at (.aload_n 0, 1, 0, 0, 0, 0, []) rfl
set_option maxRecDepth 20000 in
theorem g103_196 {c : Nat} : Y103 d Q 196 lv (.ref c :: st) σ ↔ zK c = 7 ∧ Y103 d Q 199 lv (zfv σ c 24 :: st) σ := yX_at (.getfield 50, 3, 7, 24, 212, 0, []) rfl
set_option maxRecDepth 20000 in
theorem g103_199  : Y103 d Q 199 lv st σ ↔ zldI lv 1 (fun x => Y103 d Q 200 lv (.int x :: st) σ) := yX_at (.iload_n 1, 1, 0, 0, 0, 0, []) rfl
set_option maxRecDepth 20000 in
theorem g103_200 {j : Int32} {c : Nat} : Y103 d Q 200 lv (.int j :: .ref c :: st) σ ↔ (zK c = 100 ∧ vp_in j (zLn c)) ∧ Y103 d Q 201 lv (.int (σ.1 c j.toNatClampNeg) :: st) σ := yX_at (.iaload, 1, 0, 0, 0, 0, []) rfl
set_option maxRecDepth 20000 in
theorem g103_201 {x j : Int32} {c : Nat} : Y103 d Q 201 lv (.int x :: .int j :: .ref c :: st) σ ↔ (zK c = 100 ∧ vp_in j (zLn c)) ∧ Y103 d Q 202 lv st (zwI σ c j.toNatClampNeg x) := yX_at (.iastore, 1, 0, 0, 0, 0, []) rfl
set_option maxRecDepth 20000 in
theorem g103_202  : Y103 d Q 202 lv st σ ↔ zldI lv 1 (fun x => Y103 d Q 205 (zs1 1 (.int (x + 1)) lv) st σ) := yX_at (.iinc 1 1, 3, 0, 0, 0, 0, []) rfl
set_option maxRecDepth 20000 in
theorem g103_205  : Y103 d Q 205 lv st σ ↔ Y103 d Q 180 lv st σ := yX_at (.goto (-25), 3, 180, 0, 0, 0, []) rfl
set_option maxRecDepth 20000 in
theorem g103_208  : Y103 d Q 208 lv st σ ↔ Y103 d Q 209 lv (.int 0 :: st) σ := yX_at (.iconst 0, 1, 0, 0, 0, 0, []) rfl
set_option maxRecDepth 20000 in
theorem g103_209 {x : Int32} : Y103 d Q 209 lv (.int x :: st) σ ↔ Y103 d Q 210 (zs1 1 (.int x) lv) st σ := yX_at (.istore_n 1, 1, 0, 0, 0, 0, []) rfl
set_option maxRecDepth 20000 in
theorem g103_210  : Y103 d Q 210 lv st σ ↔ zldI lv 1 (fun x => Y103 d Q 211 lv (.int x :: st) σ) := yX_at (.iload_n 1, 1, 0, 0, 0, 0, []) rfl
set_option maxRecDepth 20000 in
theorem g103_211  : Y103 d Q 211 lv st σ ↔ Y103 d Q 213 lv (.int 100 :: st) σ := yX_at (.bipush 100, 2, 0, 0, 0, 0, []) rfl
set_option maxRecDepth 20000 in
theorem g103_213 {x y : Int32} : Y103 d Q 213 lv (.int y :: .int x :: st) σ ↔ (y ≤ x → Y103 d Q 229 lv st σ) ∧ (¬ y ≤ x → Y103 d Q 216 lv st σ) := yX_at (.if_icmp .ge 16, 3, 229, 0, 0, 0, []) rfl
set_option maxRecDepth 20000 in
theorem g103_216  : Y103 d Q 216 lv st σ ↔ zldR lv 0 (fun x => Y103 d Q 217 lv (.ref x :: st) σ) := yX_at (.aload_n 0, 1, 0, 0, 0, 0, []) rfl
set_option maxRecDepth 20000 in
theorem g103_217 {c : Nat} : Y103 d Q 217 lv (.ref c :: st) σ ↔ zK c = 7 ∧ Y103 d Q 220 lv (zfv σ c 0 :: st) σ := yX_at (.getfield 7, 3, 7, 0, 220, 0, []) rfl
set_option maxRecDepth 20000 in
theorem g103_220  : Y103 d Q 220 lv st σ ↔ zldI lv 1 (fun x => Y103 d Q 221 lv (.int x :: st) σ) := yX_at (.iload_n 1, 1, 0, 0, 0, 0, []) rfl
set_option maxRecDepth 20000 in
theorem g103_221  : Y103 d Q 221 lv st σ ↔ Y103 d Q 222 lv (.int 0 :: st) σ := yX_at (.iconst 0, 1, 0, 0, 0, 0, []) rfl
set_option maxRecDepth 20000 in
theorem g103_222 {x j : Int32} {c : Nat} : Y103 d Q 222 lv (.int x :: .int j :: .ref c :: st) σ ↔ (zK c = 100 ∧ vp_in j (zLn c)) ∧ Y103 d Q 223 lv st (zwI σ c j.toNatClampNeg x) := yX_at (.iastore, 1, 0, 0, 0, 0, []) rfl
set_option maxRecDepth 20000 in
theorem g103_223  : Y103 d Q 223 lv st σ ↔ zldI lv 1 (fun x => Y103 d Q 226 (zs1 1 (.int (x + 1)) lv) st σ) := yX_at (.iinc 1 1, 3, 0, 0, 0, 0, []) rfl
set_option maxRecDepth 20000 in
theorem g103_226  : Y103 d Q 226 lv st σ ↔ Y103 d Q 210 lv st σ := yX_at (.goto (-16), 3, 210, 0, 0, 0, []) rfl
set_option maxRecDepth 20000 in
theorem g103_229  : Y103 d Q 229 lv st σ ↔ zldR lv 0 (fun x => Y103 d Q 230 lv (.ref x :: st) σ) := yX_at (.aload_n 0, 1, 0, 0, 0, 0, []) rfl
set_option maxRecDepth 20000 in
theorem g103_230 {c : Nat} : Y103 d Q 230 lv (.ref c :: st) σ ↔ zK c = 7 ∧ Y103 d Q 233 lv (zfv σ c 1 :: st) σ := yX_at (.getfield 13, 3, 7, 1, 221, 0, []) rfl
set_option maxRecDepth 20000 in
theorem g103_233  : Y103 d Q 233 lv st σ ↔ Y103 d Q 234 lv (.int 0 :: st) σ := yX_at (.iconst 0, 1, 0, 0, 0, 0, []) rfl
set_option maxRecDepth 20000 in
theorem g103_234  : Y103 d Q 234 lv st σ ↔ Y103 d Q 235 lv (.int 0 :: st) σ := yX_at (.iconst 0, 1, 0, 0, 0, 0, []) rfl
set_option maxRecDepth 20000 in
theorem g103_235 {x j : Int32} {c : Nat} : Y103 d Q 235 lv (.int x :: .int j :: .ref c :: st) σ ↔ (zK c = 102 ∧ vp_in j (zLn c)) ∧ Y103 d Q 236 lv st (zwI σ c j.toNatClampNeg (vp_nar .boolean x)) := yX_at (.bastore, 1, 1, 0, 0, 0, []) rfl
set_option maxRecDepth 20000 in
theorem g103_236  : Y103 d Q 236 lv st σ ↔ zldR lv 0 (fun x => Y103 d Q 237 lv (.ref x :: st) σ) := yX_at (.aload_n 0, 1, 0, 0, 0, 0, []) rfl
set_option maxRecDepth 20000 in
theorem g103_237 {c : Nat} : Y103 d Q 237 lv (.ref c :: st) σ ↔ zK c = 7 ∧ Y103 d Q 240 lv (zfv σ c 1 :: st) σ := yX_at (.getfield 13, 3, 7, 1, 221, 0, []) rfl
set_option maxRecDepth 20000 in
theorem g103_240  : Y103 d Q 240 lv st σ ↔ Y103 d Q 241 lv (.int 1 :: st) σ := yX_at (.iconst 1, 1, 0, 0, 0, 0, []) rfl
set_option maxRecDepth 20000 in
theorem g103_241  : Y103 d Q 241 lv st σ ↔ Y103 d Q 242 lv (.int 0 :: st) σ := yX_at (.iconst 0, 1, 0, 0, 0, 0, []) rfl
set_option maxRecDepth 20000 in
theorem g103_242 {x j : Int32} {c : Nat} : Y103 d Q 242 lv (.int x :: .int j :: .ref c :: st) σ ↔ (zK c = 102 ∧ vp_in j (zLn c)) ∧ Y103 d Q 243 lv st (zwI σ c j.toNatClampNeg (vp_nar .boolean x)) := yX_at (.bastore, 1, 1, 0, 0, 0, []) rfl
set_option maxRecDepth 20000 in
theorem g103_243  : Y103 d Q 243 lv st σ ↔ zldR lv 0 (fun x => Y103 d Q 244 lv (.ref x :: st) σ) := yX_at (.aload_n 0, 1, 0, 0, 0, 0, []) rfl
set_option maxRecDepth 20000 in
theorem g103_244  : Y103 d Q 244 lv st σ ↔ Y103 d Q 245 lv (.int 0 :: st) σ := yX_at (.iconst 0, 1, 0, 0, 0, 0, []) rfl
set_option maxRecDepth 20000 in
theorem g103_245 {x : Int32} {c : Nat} : Y103 d Q 245 lv (.int x :: .ref c :: st) σ ↔ zK c = 7 ∧ Y103 d Q 248 lv st (zwI σ c 15 x) := yX_at (.putfield 76, 3, 7, 15, 189, 0, []) rfl
set_option maxRecDepth 20000 in
theorem g103_248  : Y103 d Q 248 lv st σ ↔ zldR lv 0 (fun x => Y103 d Q 249 lv (.ref x :: st) σ) := yX_at (.aload_n 0, 1, 0, 0, 0, 0, []) rfl
set_option maxRecDepth 20000 in
theorem g103_249 {c : Nat} : Y103 d Q 249 lv (.ref c :: st) σ ↔ zK c = 7 ∧ Y103 d Q 252 lv (zfv σ c 2 :: st) σ := yX_at (.getfield 63, 3, 7, 2, 185, 0, []) rfl
set_option maxRecDepth 20000 in
theorem g103_252  : Y103 d Q 252 lv st σ ↔ zldR lv 0 (fun x => Y103 d Q 253 lv (.ref x :: st) σ) := yX_at (.aload_n 0, 1, 0, 0, 0, 0, []) rfl
set_option maxRecDepth 20000 in
theorem g103_253 {c : Nat} : Y103 d Q 253 lv (.ref c :: st) σ ↔ zK c = 7 ∧ Y103 d Q 256 lv (zfv σ c 6 :: st) σ := yX_at (.getfield 71, 3, 7, 6, 187, 0, []) rfl
set_option maxRecDepth 20000 in
theorem g103_256 {x y : Int32} : Y103 d Q 256 lv (.int y :: .int x :: st) σ ↔ Y103 d Q 257 lv (.int (x + y) :: st) σ := yX_at (.iadd, 1, 0, 0, 0, 0, []) rfl
set_option maxRecDepth 20000 in
theorem g103_257  : Y103 d Q 257 lv st σ ↔ zldR lv 0 (fun x => Y103 d Q 258 lv (.ref x :: st) σ) := yX_at (.aload_n 0, 1, 0, 0, 0, 0, []) rfl
set_option maxRecDepth 20000 in
theorem g103_258 {c : Nat} : Y103 d Q 258 lv (.ref c :: st) σ ↔ zK c = 7 ∧ Y103 d Q 261 lv (zfv σ c 8 :: st) σ := yX_at (.getfield 133, 3, 7, 8, 218, 0, []) rfl
set_option maxRecDepth 20000 in
theorem g103_261 {x y : Int32} : Y103 d Q 261 lv (.int y :: .int x :: st) σ ↔ Y103 d Q 262 lv (.int (x + y) :: st) σ := yX_at (.iadd, 1, 0, 0, 0, 0, []) rfl
set_option maxRecDepth 20000 in
theorem g103_262 {x : Int32} : Y103 d Q 262 lv [.int x] σ ↔ Q (some (.int x)) σ := yX_at (.ireturn, 1, 0, 0, 0, 0, []) rfl
end G103
def Y104 (d : Nat) (Q : Option Value → zSt → Prop) (pc : Nat) (lv : zLv) (st : List Value) (σ : zSt) : Prop := yX (yE d) ySn zt104 Q pc lv st σ
theorem C104 {d : Nat} {as : List Value} {σ : zSt} {P : Option Value → zSt → Prop} (hl : (lg_sl as).length ≤ 3) (h : Y104 d P 0 (lv_args 0 as) [] σ) : yC (d + 1) 104 as σ P := yC_of (by decide) hl h
section G104
variable {d : Nat} {Q : Option Value → zSt → Prop} {lv : zLv} {st : List Value} {σ : zSt}
theorem g104_0  : Y104 d Q 0 lv st σ ↔ zldR lv 0 (fun x => Y104 d Q 1 lv (.ref x :: st) σ) := yX_at (.aload_n 0, 1, 0, 0, 0, 0, []) rfl
theorem g104_1  : Y104 d Q 1 lv st σ ↔ zldI lv 1 (fun x => Y104 d Q 2 lv (.int x :: st) σ) := yX_at (.iload_n 1, 1, 0, 0, 0, 0, []) rfl
theorem g104_2 {v0 : Value} {c : Nat} : Y104 d Q 2 lv (v0 :: .ref c :: st) σ ↔ (zrcv 7 c ∧ zrm st) ∧ ∃ rv σ', yE d 95 [.ref c, v0] σ rv σ' ∧ Y104 d Q 5 lv (rv.toList ++ st) σ' := yX_at (.invokevirtual 136, 3, 95, 1, 222, 0, []) rfl
theorem g104_5 {x : Int32} : Y104 d Q 5 lv (.int x :: st) σ ↔ (x = 0 → Y104 d Q 20 lv st σ) ∧ (¬ x = 0 → Y104 d Q 8 lv st σ) := yX_at (.ifCond .eq 15, 3, 20, 0, 0, 0, []) rfl
theorem g104_8  : Y104 d Q 8 lv st σ ↔ zldI lv 2 (fun x => Y104 d Q 9 lv (.int x :: st) σ) := yX_at (.iload_n 2, 1, 0, 0, 0, 0, []) rfl
theorem g104_9 {x : Int32} : Y104 d Q 9 lv (.int x :: st) σ ↔ Y104 d Q 10 lv (.long x.toInt64 :: st) σ := yX_at (.i2l, 1, 0, 0, 0, 0, []) rfl
theorem g104_10  : Y104 d Q 10 lv st σ ↔ Y104 d Q 11 lv (.long 0 :: st) σ := yX_at (.lconst 0, 1, 0, 0, 0, 0, []) rfl
theorem g104_11  : Y104 d Q 11 lv st σ ↔ Y104 d Q 14 lv (.long 3 :: st) σ := yX_at (.ldc2_w 140, 3, 0, 0, 223, 3, []) rfl
theorem g104_14 {v0 v1 v2 : Value} : Y104 d Q 14 lv (v2 :: v1 :: v0 :: st) σ ↔ zrm st ∧ ∃ rv σ', yE d 91 [v0, v1, v2] σ rv σ' ∧ Y104 d Q 17 lv (rv.toList ++ st) σ' := yX_at (.invokestatic 67, 3, 91, 3, 186, 0, []) rfl
theorem g104_17 {x : Int32} : Y104 d Q 17 lv (.int x :: st) σ ↔ (¬ x = 0 → Y104 d Q 22 lv st σ) ∧ (x = 0 → Y104 d Q 20 lv st σ) := yX_at (.ifCond .ne 5, 3, 22, 0, 0, 0, []) rfl
theorem g104_20  : Y104 d Q 20 lv st σ ↔ Y104 d Q 21 lv (.int (-1) :: st) σ := by
  rw [show (-1 : Int32) = Int32.ofInt (-1) from by decide]
  exact yX_at (.iconst (-1), 1, 0, 0, 0, 0, []) rfl
theorem g104_21 {x : Int32} : Y104 d Q 21 lv [.int x] σ ↔ Q (some (.int x)) σ := yX_at (.ireturn, 1, 0, 0, 0, 0, []) rfl
theorem g104_22  : Y104 d Q 22 lv st σ ↔ zldI lv 2 (fun x => Y104 d Q 23 lv (.int x :: st) σ) := yX_at (.iload_n 2, 1, 0, 0, 0, 0, []) rfl
theorem g104_23 {x : Int32} : Y104 d Q 23 lv (.int x :: st) σ ↔ (¬ x = 0 → Y104 d Q 35 lv st σ) ∧ (x = 0 → Y104 d Q 26 lv st σ) := yX_at (.ifCond .ne 12, 3, 35, 0, 0, 0, []) rfl
theorem g104_26  : Y104 d Q 26 lv st σ ↔ zldR lv 0 (fun x => Y104 d Q 27 lv (.ref x :: st) σ) := yX_at (.aload_n 0, 1, 0, 0, 0, 0, []) rfl
theorem g104_27 {c : Nat} : Y104 d Q 27 lv (.ref c :: st) σ ↔ zK c = 7 ∧ Y104 d Q 30 lv (zfv σ c 3 :: st) σ := yX_at (.getfield 17, 3, 7, 3, 214, 0, []) rfl
theorem g104_30  : Y104 d Q 30 lv st σ ↔ zldI lv 1 (fun x => Y104 d Q 31 lv (.int x :: st) σ) := yX_at (.iload_n 1, 1, 0, 0, 0, 0, []) rfl
theorem g104_31 {j : Int32} {c : Nat} : Y104 d Q 31 lv (.int j :: .ref c :: st) σ ↔ (zK c = 100 ∧ vp_in j (zLn c)) ∧ Y104 d Q 32 lv (.int (σ.1 c j.toNatClampNeg) :: st) σ := yX_at (.iaload, 1, 0, 0, 0, 0, []) rfl
theorem g104_32  : Y104 d Q 32 lv st σ ↔ Y104 d Q 72 lv st σ := yX_at (.goto 40, 3, 72, 0, 0, 0, []) rfl
theorem g104_35  : Y104 d Q 35 lv st σ ↔ zldI lv 2 (fun x => Y104 d Q 36 lv (.int x :: st) σ) := yX_at (.iload_n 2, 1, 0, 0, 0, 0, []) rfl
theorem g104_36  : Y104 d Q 36 lv st σ ↔ Y104 d Q 37 lv (.int 1 :: st) σ := yX_at (.iconst 1, 1, 0, 0, 0, 0, []) rfl
theorem g104_37 {x y : Int32} : Y104 d Q 37 lv (.int y :: .int x :: st) σ ↔ (¬ x = y → Y104 d Q 49 lv st σ) ∧ (x = y → Y104 d Q 40 lv st σ) := yX_at (.if_icmp .ne 12, 3, 49, 0, 0, 0, []) rfl
theorem g104_40  : Y104 d Q 40 lv st σ ↔ zldR lv 0 (fun x => Y104 d Q 41 lv (.ref x :: st) σ) := yX_at (.aload_n 0, 1, 0, 0, 0, 0, []) rfl
theorem g104_41 {c : Nat} : Y104 d Q 41 lv (.ref c :: st) σ ↔ zK c = 7 ∧ Y104 d Q 44 lv (zfv σ c 4 :: st) σ := yX_at (.getfield 20, 3, 7, 4, 215, 0, []) rfl
theorem g104_44  : Y104 d Q 44 lv st σ ↔ zldI lv 1 (fun x => Y104 d Q 45 lv (.int x :: st) σ) := yX_at (.iload_n 1, 1, 0, 0, 0, 0, []) rfl
theorem g104_45 {j : Int32} {c : Nat} : Y104 d Q 45 lv (.int j :: .ref c :: st) σ ↔ (zK c = 100 ∧ vp_in j (zLn c)) ∧ Y104 d Q 46 lv (.int (σ.1 c j.toNatClampNeg) :: st) σ := yX_at (.iaload, 1, 0, 0, 0, 0, []) rfl
theorem g104_46  : Y104 d Q 46 lv st σ ↔ Y104 d Q 72 lv st σ := yX_at (.goto 26, 3, 72, 0, 0, 0, []) rfl
theorem g104_49  : Y104 d Q 49 lv st σ ↔ zldI lv 2 (fun x => Y104 d Q 50 lv (.int x :: st) σ) := yX_at (.iload_n 2, 1, 0, 0, 0, 0, []) rfl
theorem g104_50  : Y104 d Q 50 lv st σ ↔ Y104 d Q 51 lv (.int 2 :: st) σ := yX_at (.iconst 2, 1, 0, 0, 0, 0, []) rfl
theorem g104_51 {x y : Int32} : Y104 d Q 51 lv (.int y :: .int x :: st) σ ↔ (¬ x = y → Y104 d Q 63 lv st σ) ∧ (x = y → Y104 d Q 54 lv st σ) := yX_at (.if_icmp .ne 12, 3, 63, 0, 0, 0, []) rfl
theorem g104_54  : Y104 d Q 54 lv st σ ↔ zldR lv 0 (fun x => Y104 d Q 55 lv (.ref x :: st) σ) := yX_at (.aload_n 0, 1, 0, 0, 0, 0, []) rfl
theorem g104_55 {c : Nat} : Y104 d Q 55 lv (.ref c :: st) σ ↔ zK c = 7 ∧ Y104 d Q 58 lv (zfv σ c 5 :: st) σ := yX_at (.getfield 23, 3, 7, 5, 216, 0, []) rfl
theorem g104_58  : Y104 d Q 58 lv st σ ↔ zldI lv 1 (fun x => Y104 d Q 59 lv (.int x :: st) σ) := yX_at (.iload_n 1, 1, 0, 0, 0, 0, []) rfl
theorem g104_59 {j : Int32} {c : Nat} : Y104 d Q 59 lv (.int j :: .ref c :: st) σ ↔ (zK c = 100 ∧ vp_in j (zLn c)) ∧ Y104 d Q 60 lv (.int (σ.1 c j.toNatClampNeg) :: st) σ := yX_at (.iaload, 1, 0, 0, 0, 0, []) rfl
theorem g104_60  : Y104 d Q 60 lv st σ ↔ Y104 d Q 72 lv st σ := yX_at (.goto 12, 3, 72, 0, 0, 0, []) rfl
theorem g104_63  : Y104 d Q 63 lv st σ ↔ zldR lv 0 (fun x => Y104 d Q 64 lv (.ref x :: st) σ) := yX_at (.aload_n 0, 1, 0, 0, 0, 0, []) rfl
theorem g104_64 {c : Nat} : Y104 d Q 64 lv (.ref c :: st) σ ↔ zK c = 7 ∧ Y104 d Q 67 lv (zfv σ c 0 :: st) σ := yX_at (.getfield 7, 3, 7, 0, 220, 0, []) rfl
theorem g104_67  : Y104 d Q 67 lv st σ ↔ Y104 d Q 69 lv (.int 19 :: st) σ := yX_at (.bipush 19, 2, 0, 0, 0, 0, []) rfl
theorem g104_69  : Y104 d Q 69 lv st σ ↔ zldI lv 1 (fun x => Y104 d Q 70 lv (.int x :: st) σ) := yX_at (.iload_n 1, 1, 0, 0, 0, 0, []) rfl
theorem g104_70 {x y : Int32} : Y104 d Q 70 lv (.int y :: .int x :: st) σ ↔ Y104 d Q 71 lv (.int (x + y) :: st) σ := yX_at (.iadd, 1, 0, 0, 0, 0, []) rfl
theorem g104_71 {j : Int32} {c : Nat} : Y104 d Q 71 lv (.int j :: .ref c :: st) σ ↔ (zK c = 100 ∧ vp_in j (zLn c)) ∧ Y104 d Q 72 lv (.int (σ.1 c j.toNatClampNeg) :: st) σ := yX_at (.iaload, 1, 0, 0, 0, 0, []) rfl
theorem g104_72 {x : Int32} : Y104 d Q 72 lv [.int x] σ ↔ Q (some (.int x)) σ := yX_at (.ireturn, 1, 0, 0, 0, 0, []) rfl
end G104
def Y105 (d : Nat) (Q : Option Value → zSt → Prop) (pc : Nat) (lv : zLv) (st : List Value) (σ : zSt) : Prop := yX (yE d) ySn zt105 Q pc lv st σ
theorem C105 {d : Nat} {as : List Value} {σ : zSt} {P : Option Value → zSt → Prop} (hl : (lg_sl as).length ≤ 5) (h : Y105 d P 0 (lv_args 0 as) [] σ) : yC (d + 1) 105 as σ P := yC_of (by decide) hl h
section G105
variable {d : Nat} {Q : Option Value → zSt → Prop} {lv : zLv} {st : List Value} {σ : zSt}
theorem g105_0  : Y105 d Q 0 lv st σ ↔ Y105 d Q 2 lv (.int (-9) :: st) σ := by
  rw [show (-9 : Int32) = (Int8.ofInt (-9)).toInt32 from by decide]
  exact yX_at (.bipush (-9), 2, 0, 0, 0, 0, []) rfl
theorem g105_2 {x : Int32} : Y105 d Q 2 lv (.int x :: st) σ ↔ Y105 d Q 3 (zs1 2 (.int x) lv) st σ := yX_at (.istore_n 2, 1, 0, 0, 0, 0, []) rfl
theorem g105_3  : Y105 d Q 3 lv st σ ↔ Y105 d Q 4 lv (.int 0 :: st) σ := yX_at (.iconst 0, 1, 0, 0, 0, 0, []) rfl
theorem g105_4 {x : Int32} : Y105 d Q 4 lv (.int x :: st) σ ↔ Y105 d Q 5 (zs1 3 (.int x) lv) st σ := yX_at (.istore_n 3, 1, 0, 0, 0, 0, []) rfl
theorem g105_5  : Y105 d Q 5 lv st σ ↔ zldI lv 3 (fun x => Y105 d Q 6 lv (.int x :: st) σ) := yX_at (.iload_n 3, 1, 0, 0, 0, 0, []) rfl
theorem g105_6  : Y105 d Q 6 lv st σ ↔ zldR lv 0 (fun x => Y105 d Q 7 lv (.ref x :: st) σ) := yX_at (.aload_n 0, 1, 0, 0, 0, 0, []) rfl
theorem g105_7 {c : Nat} : Y105 d Q 7 lv (.ref c :: st) σ ↔ zK c = 7 ∧ Y105 d Q 10 lv (zfv σ c 2 :: st) σ := yX_at (.getfield 63, 3, 7, 2, 185, 0, []) rfl
theorem g105_10 {x y : Int32} : Y105 d Q 10 lv (.int y :: .int x :: st) σ ↔ (y ≤ x → Y105 d Q 66 lv st σ) ∧ (¬ y ≤ x → Y105 d Q 13 lv st σ) := yX_at (.if_icmp .ge 56, 3, 66, 0, 0, 0, []) rfl
theorem g105_13  : Y105 d Q 13 lv st σ ↔ Y105 d Q 14 lv (.int 0 :: st) σ := yX_at (.iconst 0, 1, 0, 0, 0, 0, []) rfl
theorem g105_14 {x : Int32} : Y105 d Q 14 lv (.int x :: st) σ ↔ Y105 d Q 16 (zs1 4 (.int x) lv) st σ := yX_at (.istore 4, 2, 0, 0, 0, 0, []) rfl
theorem g105_16  : Y105 d Q 16 lv st σ ↔ zldI lv 4 (fun x => Y105 d Q 18 lv (.int x :: st) σ) := yX_at (.iload 4, 2, 0, 0, 0, 0, []) rfl
theorem g105_18  : Y105 d Q 18 lv st σ ↔ zldR lv 0 (fun x => Y105 d Q 19 lv (.ref x :: st) σ) := yX_at (.aload_n 0, 1, 0, 0, 0, 0, []) rfl
theorem g105_19 {c : Nat} : Y105 d Q 19 lv (.ref c :: st) σ ↔ zK c = 7 ∧ Y105 d Q 22 lv (zfv σ c 0 :: st) σ := yX_at (.getfield 7, 3, 7, 0, 220, 0, []) rfl
theorem g105_22  : Y105 d Q 22 lv st σ ↔ Y105 d Q 24 lv (.int 19 :: st) σ := yX_at (.bipush 19, 2, 0, 0, 0, 0, []) rfl
theorem g105_24  : Y105 d Q 24 lv st σ ↔ zldI lv 3 (fun x => Y105 d Q 25 lv (.int x :: st) σ) := yX_at (.iload_n 3, 1, 0, 0, 0, 0, []) rfl
theorem g105_25 {x y : Int32} : Y105 d Q 25 lv (.int y :: .int x :: st) σ ↔ Y105 d Q 26 lv (.int (x + y) :: st) σ := yX_at (.iadd, 1, 0, 0, 0, 0, []) rfl
theorem g105_26 {j : Int32} {c : Nat} : Y105 d Q 26 lv (.int j :: .ref c :: st) σ ↔ (zK c = 100 ∧ vp_in j (zLn c)) ∧ Y105 d Q 27 lv (.int (σ.1 c j.toNatClampNeg) :: st) σ := yX_at (.iaload, 1, 0, 0, 0, 0, []) rfl
theorem g105_27 {x y : Int32} : Y105 d Q 27 lv (.int y :: .int x :: st) σ ↔ (y ≤ x → Y105 d Q 60 lv st σ) ∧ (¬ y ≤ x → Y105 d Q 30 lv st σ) := yX_at (.if_icmp .ge 33, 3, 60, 0, 0, 0, []) rfl
theorem g105_30  : Y105 d Q 30 lv st σ ↔ zldR lv 0 (fun x => Y105 d Q 31 lv (.ref x :: st) σ) := yX_at (.aload_n 0, 1, 0, 0, 0, 0, []) rfl
theorem g105_31 {c : Nat} : Y105 d Q 31 lv (.ref c :: st) σ ↔ zK c = 7 ∧ Y105 d Q 34 lv (zfv σ c 0 :: st) σ := yX_at (.getfield 7, 3, 7, 0, 220, 0, []) rfl
theorem g105_34  : Y105 d Q 34 lv st σ ↔ Y105 d Q 36 lv (.int 23 :: st) σ := yX_at (.bipush 23, 2, 0, 0, 0, 0, []) rfl
theorem g105_36  : Y105 d Q 36 lv st σ ↔ Y105 d Q 37 lv (.int 5 :: st) σ := yX_at (.iconst 5, 1, 0, 0, 0, 0, []) rfl
theorem g105_37  : Y105 d Q 37 lv st σ ↔ zldI lv 3 (fun x => Y105 d Q 38 lv (.int x :: st) σ) := yX_at (.iload_n 3, 1, 0, 0, 0, 0, []) rfl
theorem g105_38 {x y : Int32} : Y105 d Q 38 lv (.int y :: .int x :: st) σ ↔ Y105 d Q 39 lv (.int (x * y) :: st) σ := yX_at (.imul, 1, 0, 0, 0, 0, []) rfl
theorem g105_39 {x y : Int32} : Y105 d Q 39 lv (.int y :: .int x :: st) σ ↔ Y105 d Q 40 lv (.int (x + y) :: st) σ := yX_at (.iadd, 1, 0, 0, 0, 0, []) rfl
theorem g105_40  : Y105 d Q 40 lv st σ ↔ zldI lv 4 (fun x => Y105 d Q 42 lv (.int x :: st) σ) := yX_at (.iload 4, 2, 0, 0, 0, 0, []) rfl
theorem g105_42 {x y : Int32} : Y105 d Q 42 lv (.int y :: .int x :: st) σ ↔ Y105 d Q 43 lv (.int (x + y) :: st) σ := yX_at (.iadd, 1, 0, 0, 0, 0, []) rfl
theorem g105_43 {j : Int32} {c : Nat} : Y105 d Q 43 lv (.int j :: .ref c :: st) σ ↔ (zK c = 100 ∧ vp_in j (zLn c)) ∧ Y105 d Q 44 lv (.int (σ.1 c j.toNatClampNeg) :: st) σ := yX_at (.iaload, 1, 0, 0, 0, 0, []) rfl
theorem g105_44  : Y105 d Q 44 lv st σ ↔ zldI lv 1 (fun x => Y105 d Q 45 lv (.int x :: st) σ) := yX_at (.iload_n 1, 1, 0, 0, 0, 0, []) rfl
theorem g105_45 {x y : Int32} : Y105 d Q 45 lv (.int y :: .int x :: st) σ ↔ (¬ x = y → Y105 d Q 52 lv st σ) ∧ (x = y → Y105 d Q 48 lv st σ) := yX_at (.if_icmp .ne 7, 3, 52, 0, 0, 0, []) rfl
theorem g105_48  : Y105 d Q 48 lv st σ ↔ zldI lv 3 (fun x => Y105 d Q 49 lv (.int x :: st) σ) := yX_at (.iload_n 3, 1, 0, 0, 0, 0, []) rfl
theorem g105_49  : Y105 d Q 49 lv st σ ↔ Y105 d Q 53 lv st σ := yX_at (.goto 4, 3, 53, 0, 0, 0, []) rfl
theorem g105_52  : Y105 d Q 52 lv st σ ↔ zldI lv 2 (fun x => Y105 d Q 53 lv (.int x :: st) σ) := yX_at (.iload_n 2, 1, 0, 0, 0, 0, []) rfl
theorem g105_53 {x : Int32} : Y105 d Q 53 lv (.int x :: st) σ ↔ Y105 d Q 54 (zs1 2 (.int x) lv) st σ := yX_at (.istore_n 2, 1, 0, 0, 0, 0, []) rfl
theorem g105_54  : Y105 d Q 54 lv st σ ↔ zldI lv 4 (fun x => Y105 d Q 57 (zs1 4 (.int (x + 1)) lv) st σ) := yX_at (.iinc 4 1, 3, 0, 0, 0, 0, []) rfl
theorem g105_57  : Y105 d Q 57 lv st σ ↔ Y105 d Q 16 lv st σ := yX_at (.goto (-41), 3, 16, 0, 0, 0, []) rfl
theorem g105_60  : Y105 d Q 60 lv st σ ↔ zldI lv 3 (fun x => Y105 d Q 63 (zs1 3 (.int (x + 1)) lv) st σ) := yX_at (.iinc 3 1, 3, 0, 0, 0, 0, []) rfl
theorem g105_63  : Y105 d Q 63 lv st σ ↔ Y105 d Q 5 lv st σ := yX_at (.goto (-58), 3, 5, 0, 0, 0, []) rfl
theorem g105_66  : Y105 d Q 66 lv st σ ↔ zldI lv 2 (fun x => Y105 d Q 67 lv (.int x :: st) σ) := yX_at (.iload_n 2, 1, 0, 0, 0, 0, []) rfl
theorem g105_67 {x : Int32} : Y105 d Q 67 lv [.int x] σ ↔ Q (some (.int x)) σ := yX_at (.ireturn, 1, 0, 0, 0, 0, []) rfl
end G105
def Y106 (d : Nat) (Q : Option Value → zSt → Prop) (pc : Nat) (lv : zLv) (st : List Value) (σ : zSt) : Prop := yX (yE d) ySn zt106 Q pc lv st σ
theorem C106 {d : Nat} {as : List Value} {σ : zSt} {P : Option Value → zSt → Prop} (hl : (lg_sl as).length ≤ 4) (h : Y106 d P 0 (lv_args 0 as) [] σ) : yC (d + 1) 106 as σ P := yC_of (by decide) hl h
section G106
variable {d : Nat} {Q : Option Value → zSt → Prop} {lv : zLv} {st : List Value} {σ : zSt}
theorem g106_0  : Y106 d Q 0 lv st σ ↔ zldR lv 0 (fun x => Y106 d Q 1 lv (.ref x :: st) σ) := yX_at (.aload_n 0, 1, 0, 0, 0, 0, []) rfl
theorem g106_1  : Y106 d Q 1 lv st σ ↔ zldI lv 1 (fun x => Y106 d Q 2 lv (.int x :: st) σ) := yX_at (.iload_n 1, 1, 0, 0, 0, 0, []) rfl
theorem g106_2 {v0 : Value} {c : Nat} : Y106 d Q 2 lv (v0 :: .ref c :: st) σ ↔ (zrcv 7 c ∧ zrm st) ∧ ∃ rv σ', yE d 96 [.ref c, v0] σ rv σ' ∧ Y106 d Q 5 lv (rv.toList ++ st) σ' := yX_at (.invokevirtual 142, 3, 96, 1, 224, 0, []) rfl
theorem g106_5 {x : Int32} : Y106 d Q 5 lv (.int x :: st) σ ↔ (x = 0 → Y106 d Q 20 lv st σ) ∧ (¬ x = 0 → Y106 d Q 8 lv st σ) := yX_at (.ifCond .eq 15, 3, 20, 0, 0, 0, []) rfl
theorem g106_8  : Y106 d Q 8 lv st σ ↔ zldI lv 2 (fun x => Y106 d Q 9 lv (.int x :: st) σ) := yX_at (.iload_n 2, 1, 0, 0, 0, 0, []) rfl
theorem g106_9 {x : Int32} : Y106 d Q 9 lv (.int x :: st) σ ↔ Y106 d Q 10 lv (.long x.toInt64 :: st) σ := yX_at (.i2l, 1, 0, 0, 0, 0, []) rfl
theorem g106_10  : Y106 d Q 10 lv st σ ↔ Y106 d Q 11 lv (.long 0 :: st) σ := yX_at (.lconst 0, 1, 0, 0, 0, 0, []) rfl
theorem g106_11  : Y106 d Q 11 lv st σ ↔ Y106 d Q 14 lv (.long 7 :: st) σ := yX_at (.ldc2_w 145, 3, 0, 0, 225, 7, []) rfl
theorem g106_14 {v0 v1 v2 : Value} : Y106 d Q 14 lv (v2 :: v1 :: v0 :: st) σ ↔ zrm st ∧ ∃ rv σ', yE d 91 [v0, v1, v2] σ rv σ' ∧ Y106 d Q 17 lv (rv.toList ++ st) σ' := yX_at (.invokestatic 67, 3, 91, 3, 186, 0, []) rfl
theorem g106_17 {x : Int32} : Y106 d Q 17 lv (.int x :: st) σ ↔ (¬ x = 0 → Y106 d Q 22 lv st σ) ∧ (x = 0 → Y106 d Q 20 lv st σ) := yX_at (.ifCond .ne 5, 3, 22, 0, 0, 0, []) rfl
theorem g106_20  : Y106 d Q 20 lv st σ ↔ Y106 d Q 21 lv (.int (-1) :: st) σ := by
  rw [show (-1 : Int32) = Int32.ofInt (-1) from by decide]
  exact yX_at (.iconst (-1), 1, 0, 0, 0, 0, []) rfl
theorem g106_21 {x : Int32} : Y106 d Q 21 lv [.int x] σ ↔ Q (some (.int x)) σ := yX_at (.ireturn, 1, 0, 0, 0, 0, []) rfl
theorem g106_22  : Y106 d Q 22 lv st σ ↔ zldR lv 0 (fun x => Y106 d Q 23 lv (.ref x :: st) σ) := yX_at (.aload_n 0, 1, 0, 0, 0, 0, []) rfl
theorem g106_23 {c : Nat} : Y106 d Q 23 lv (.ref c :: st) σ ↔ zK c = 7 ∧ Y106 d Q 26 lv (zfv σ c 0 :: st) σ := yX_at (.getfield 7, 3, 7, 0, 220, 0, []) rfl
theorem g106_26  : Y106 d Q 26 lv st σ ↔ Y106 d Q 27 lv (.int 3 :: st) σ := yX_at (.iconst 3, 1, 0, 0, 0, 0, []) rfl
theorem g106_27  : Y106 d Q 27 lv st σ ↔ zldI lv 1 (fun x => Y106 d Q 28 lv (.int x :: st) σ) := yX_at (.iload_n 1, 1, 0, 0, 0, 0, []) rfl
theorem g106_28 {x y : Int32} : Y106 d Q 28 lv (.int y :: .int x :: st) σ ↔ Y106 d Q 29 lv (.int (x + y) :: st) σ := yX_at (.iadd, 1, 0, 0, 0, 0, []) rfl
theorem g106_29 {j : Int32} {c : Nat} : Y106 d Q 29 lv (.int j :: .ref c :: st) σ ↔ (zK c = 100 ∧ vp_in j (zLn c)) ∧ Y106 d Q 30 lv (.int (σ.1 c j.toNatClampNeg) :: st) σ := yX_at (.iaload, 1, 0, 0, 0, 0, []) rfl
theorem g106_30  : Y106 d Q 30 lv st σ ↔ Y106 d Q 31 lv (.int 1 :: st) σ := yX_at (.iconst 1, 1, 0, 0, 0, 0, []) rfl
theorem g106_31 {x y : Int32} : Y106 d Q 31 lv (.int y :: .int x :: st) σ ↔ (¬ x = y → Y106 d Q 38 lv st σ) ∧ (x = y → Y106 d Q 34 lv st σ) := yX_at (.if_icmp .ne 7, 3, 38, 0, 0, 0, []) rfl
theorem g106_34  : Y106 d Q 34 lv st σ ↔ Y106 d Q 35 lv (.int 1 :: st) σ := yX_at (.iconst 1, 1, 0, 0, 0, 0, []) rfl
theorem g106_35  : Y106 d Q 35 lv st σ ↔ Y106 d Q 39 lv st σ := yX_at (.goto 4, 3, 39, 0, 0, 0, []) rfl
theorem g106_38  : Y106 d Q 38 lv st σ ↔ Y106 d Q 39 lv (.int 0 :: st) σ := yX_at (.iconst 0, 1, 0, 0, 0, 0, []) rfl
theorem g106_39 {x : Int32} : Y106 d Q 39 lv (.int x :: st) σ ↔ Y106 d Q 40 (zs1 3 (.int x) lv) st σ := yX_at (.istore_n 3, 1, 0, 0, 0, 0, []) rfl
theorem g106_40  : Y106 d Q 40 lv st σ ↔ zldI lv 2 (fun x => Y106 d Q 41 lv (.int x :: st) σ) := yX_at (.iload_n 2, 1, 0, 0, 0, 0, []) rfl
theorem g106_41  : Y106 d Q 41 lv st σ ↔ Y106 d Q 42 lv (.int 5 :: st) σ := yX_at (.iconst 5, 1, 0, 0, 0, 0, []) rfl
theorem g106_42 {x y : Int32} : Y106 d Q 42 lv (.int y :: .int x :: st) σ ↔ (y ≤ x → Y106 d Q 58 lv st σ) ∧ (¬ y ≤ x → Y106 d Q 45 lv st σ) := yX_at (.if_icmp .ge 16, 3, 58, 0, 0, 0, []) rfl
theorem g106_45  : Y106 d Q 45 lv st σ ↔ zldR lv 0 (fun x => Y106 d Q 46 lv (.ref x :: st) σ) := yX_at (.aload_n 0, 1, 0, 0, 0, 0, []) rfl
theorem g106_46 {c : Nat} : Y106 d Q 46 lv (.ref c :: st) σ ↔ zK c = 7 ∧ Y106 d Q 49 lv (zfv σ c 7 :: st) σ := yX_at (.getfield 26, 3, 7, 7, 217, 0, []) rfl
theorem g106_49  : Y106 d Q 49 lv st σ ↔ Y106 d Q 50 lv (.int 5 :: st) σ := yX_at (.iconst 5, 1, 0, 0, 0, 0, []) rfl
theorem g106_50  : Y106 d Q 50 lv st σ ↔ zldI lv 1 (fun x => Y106 d Q 51 lv (.int x :: st) σ) := yX_at (.iload_n 1, 1, 0, 0, 0, 0, []) rfl
theorem g106_51 {x y : Int32} : Y106 d Q 51 lv (.int y :: .int x :: st) σ ↔ Y106 d Q 52 lv (.int (x * y) :: st) σ := yX_at (.imul, 1, 0, 0, 0, 0, []) rfl
theorem g106_52  : Y106 d Q 52 lv st σ ↔ zldI lv 2 (fun x => Y106 d Q 53 lv (.int x :: st) σ) := yX_at (.iload_n 2, 1, 0, 0, 0, 0, []) rfl
theorem g106_53 {x y : Int32} : Y106 d Q 53 lv (.int y :: .int x :: st) σ ↔ Y106 d Q 54 lv (.int (x + y) :: st) σ := yX_at (.iadd, 1, 0, 0, 0, 0, []) rfl
theorem g106_54 {j : Int32} {c : Nat} : Y106 d Q 54 lv (.int j :: .ref c :: st) σ ↔ (zK c = 100 ∧ vp_in j (zLn c)) ∧ Y106 d Q 55 lv (.int (σ.1 c j.toNatClampNeg) :: st) σ := yX_at (.iaload, 1, 0, 0, 0, 0, []) rfl
theorem g106_55  : Y106 d Q 55 lv st σ ↔ Y106 d Q 105 lv st σ := yX_at (.goto 50, 3, 105, 0, 0, 0, []) rfl
theorem g106_58  : Y106 d Q 58 lv st σ ↔ zldI lv 2 (fun x => Y106 d Q 59 lv (.int x :: st) σ) := yX_at (.iload_n 2, 1, 0, 0, 0, 0, []) rfl
theorem g106_59  : Y106 d Q 59 lv st σ ↔ Y106 d Q 60 lv (.int 5 :: st) σ := yX_at (.iconst 5, 1, 0, 0, 0, 0, []) rfl
theorem g106_60 {x y : Int32} : Y106 d Q 60 lv (.int y :: .int x :: st) σ ↔ (¬ x = y → Y106 d Q 74 lv st σ) ∧ (x = y → Y106 d Q 63 lv st σ) := yX_at (.if_icmp .ne 14, 3, 74, 0, 0, 0, []) rfl
theorem g106_63  : Y106 d Q 63 lv st σ ↔ zldR lv 0 (fun x => Y106 d Q 64 lv (.ref x :: st) σ) := yX_at (.aload_n 0, 1, 0, 0, 0, 0, []) rfl
theorem g106_64 {c : Nat} : Y106 d Q 64 lv (.ref c :: st) σ ↔ zK c = 7 ∧ Y106 d Q 67 lv (zfv σ c 0 :: st) σ := yX_at (.getfield 7, 3, 7, 0, 220, 0, []) rfl
theorem g106_67  : Y106 d Q 67 lv st σ ↔ Y106 d Q 68 lv (.int 3 :: st) σ := yX_at (.iconst 3, 1, 0, 0, 0, 0, []) rfl
theorem g106_68  : Y106 d Q 68 lv st σ ↔ zldI lv 1 (fun x => Y106 d Q 69 lv (.int x :: st) σ) := yX_at (.iload_n 1, 1, 0, 0, 0, 0, []) rfl
theorem g106_69 {x y : Int32} : Y106 d Q 69 lv (.int y :: .int x :: st) σ ↔ Y106 d Q 70 lv (.int (x + y) :: st) σ := yX_at (.iadd, 1, 0, 0, 0, 0, []) rfl
theorem g106_70 {j : Int32} {c : Nat} : Y106 d Q 70 lv (.int j :: .ref c :: st) σ ↔ (zK c = 100 ∧ vp_in j (zLn c)) ∧ Y106 d Q 71 lv (.int (σ.1 c j.toNatClampNeg) :: st) σ := yX_at (.iaload, 1, 0, 0, 0, 0, []) rfl
theorem g106_71  : Y106 d Q 71 lv st σ ↔ Y106 d Q 105 lv st σ := yX_at (.goto 34, 3, 105, 0, 0, 0, []) rfl
theorem g106_74  : Y106 d Q 74 lv st σ ↔ zldI lv 2 (fun x => Y106 d Q 75 lv (.int x :: st) σ) := yX_at (.iload_n 2, 1, 0, 0, 0, 0, []) rfl
theorem g106_75  : Y106 d Q 75 lv st σ ↔ Y106 d Q 77 lv (.int 6 :: st) σ := yX_at (.bipush 6, 2, 0, 0, 0, 0, []) rfl
theorem g106_77 {x y : Int32} : Y106 d Q 77 lv (.int y :: .int x :: st) σ ↔ (¬ x = y → Y106 d Q 100 lv st σ) ∧ (x = y → Y106 d Q 80 lv st σ) := yX_at (.if_icmp .ne 23, 3, 100, 0, 0, 0, []) rfl
theorem g106_80  : Y106 d Q 80 lv st σ ↔ zldI lv 3 (fun x => Y106 d Q 81 lv (.int x :: st) σ) := yX_at (.iload_n 3, 1, 0, 0, 0, 0, []) rfl
theorem g106_81 {x : Int32} : Y106 d Q 81 lv (.int x :: st) σ ↔ (x = 0 → Y106 d Q 96 lv st σ) ∧ (¬ x = 0 → Y106 d Q 84 lv st σ) := yX_at (.ifCond .eq 15, 3, 96, 0, 0, 0, []) rfl
theorem g106_84  : Y106 d Q 84 lv st σ ↔ zldR lv 0 (fun x => Y106 d Q 85 lv (.ref x :: st) σ) := yX_at (.aload_n 0, 1, 0, 0, 0, 0, []) rfl
theorem g106_85 {c : Nat} : Y106 d Q 85 lv (.ref c :: st) σ ↔ zK c = 7 ∧ Y106 d Q 88 lv (zfv σ c 0 :: st) σ := yX_at (.getfield 7, 3, 7, 0, 220, 0, []) rfl
theorem g106_88  : Y106 d Q 88 lv st σ ↔ Y106 d Q 90 lv (.int 11 :: st) σ := yX_at (.bipush 11, 2, 0, 0, 0, 0, []) rfl
theorem g106_90  : Y106 d Q 90 lv st σ ↔ zldI lv 1 (fun x => Y106 d Q 91 lv (.int x :: st) σ) := yX_at (.iload_n 1, 1, 0, 0, 0, 0, []) rfl
theorem g106_91 {x y : Int32} : Y106 d Q 91 lv (.int y :: .int x :: st) σ ↔ Y106 d Q 92 lv (.int (x + y) :: st) σ := yX_at (.iadd, 1, 0, 0, 0, 0, []) rfl
theorem g106_92 {j : Int32} {c : Nat} : Y106 d Q 92 lv (.int j :: .ref c :: st) σ ↔ (zK c = 100 ∧ vp_in j (zLn c)) ∧ Y106 d Q 93 lv (.int (σ.1 c j.toNatClampNeg) :: st) σ := yX_at (.iaload, 1, 0, 0, 0, 0, []) rfl
theorem g106_93  : Y106 d Q 93 lv st σ ↔ Y106 d Q 105 lv st σ := yX_at (.goto 12, 3, 105, 0, 0, 0, []) rfl
theorem g106_96  : Y106 d Q 96 lv st σ ↔ Y106 d Q 97 lv (.int 0 :: st) σ := yX_at (.iconst 0, 1, 0, 0, 0, 0, []) rfl
theorem g106_97  : Y106 d Q 97 lv st σ ↔ Y106 d Q 105 lv st σ := yX_at (.goto 8, 3, 105, 0, 0, 0, []) rfl
theorem g106_100  : Y106 d Q 100 lv st σ ↔ zldR lv 0 (fun x => Y106 d Q 101 lv (.ref x :: st) σ) := yX_at (.aload_n 0, 1, 0, 0, 0, 0, []) rfl
theorem g106_101  : Y106 d Q 101 lv st σ ↔ zldI lv 1 (fun x => Y106 d Q 102 lv (.int x :: st) σ) := yX_at (.iload_n 1, 1, 0, 0, 0, 0, []) rfl
theorem g106_102 {v0 : Value} {c : Nat} : Y106 d Q 102 lv (v0 :: .ref c :: st) σ ↔ (zrcv 7 c ∧ zrm st) ∧ ∃ rv σ', yE d 105 [.ref c, v0] σ rv σ' ∧ Y106 d Q 105 lv (rv.toList ++ st) σ' := yX_at (.invokevirtual 147, 3, 105, 1, 226, 0, []) rfl
theorem g106_105 {x : Int32} : Y106 d Q 105 lv [.int x] σ ↔ Q (some (.int x)) σ := yX_at (.ireturn, 1, 0, 0, 0, 0, []) rfl
end G106
def Y107 (d : Nat) (Q : Option Value → zSt → Prop) (pc : Nat) (lv : zLv) (st : List Value) (σ : zSt) : Prop := yX (yE d) ySn zt107 Q pc lv st σ
theorem C107 {d : Nat} {as : List Value} {σ : zSt} {P : Option Value → zSt → Prop} (hl : (lg_sl as).length ≤ 3) (h : Y107 d P 0 (lv_args 0 as) [] σ) : yC (d + 1) 107 as σ P := yC_of (by decide) hl h
section G107
variable {d : Nat} {Q : Option Value → zSt → Prop} {lv : zLv} {st : List Value} {σ : zSt}
theorem g107_0  : Y107 d Q 0 lv st σ ↔ zldR lv 0 (fun x => Y107 d Q 1 lv (.ref x :: st) σ) := yX_at (.aload_n 0, 1, 0, 0, 0, 0, []) rfl
theorem g107_1  : Y107 d Q 1 lv st σ ↔ zldI lv 1 (fun x => Y107 d Q 2 lv (.int x :: st) σ) := yX_at (.iload_n 1, 1, 0, 0, 0, 0, []) rfl
theorem g107_2 {v0 : Value} {c : Nat} : Y107 d Q 2 lv (v0 :: .ref c :: st) σ ↔ (zrcv 7 c ∧ zrm st) ∧ ∃ rv σ', yE d 95 [.ref c, v0] σ rv σ' ∧ Y107 d Q 5 lv (rv.toList ++ st) σ' := yX_at (.invokevirtual 136, 3, 95, 1, 222, 0, []) rfl
theorem g107_5 {x : Int32} : Y107 d Q 5 lv (.int x :: st) σ ↔ (x = 0 → Y107 d Q 12 lv st σ) ∧ (¬ x = 0 → Y107 d Q 8 lv st σ) := yX_at (.ifCond .eq 7, 3, 12, 0, 0, 0, []) rfl
theorem g107_8  : Y107 d Q 8 lv st σ ↔ zldI lv 2 (fun x => Y107 d Q 9 lv (.int x :: st) σ) := yX_at (.iload_n 2, 1, 0, 0, 0, 0, []) rfl
theorem g107_9 {x : Int32} : Y107 d Q 9 lv (.int x :: st) σ ↔ (0 ≤ x → Y107 d Q 14 lv st σ) ∧ (¬ 0 ≤ x → Y107 d Q 12 lv st σ) := yX_at (.ifCond .ge 5, 3, 14, 0, 0, 0, []) rfl
theorem g107_12  : Y107 d Q 12 lv st σ ↔ Y107 d Q 13 lv (.int (-1) :: st) σ := by
  rw [show (-1 : Int32) = Int32.ofInt (-1) from by decide]
  exact yX_at (.iconst (-1), 1, 0, 0, 0, 0, []) rfl
theorem g107_13 {x : Int32} : Y107 d Q 13 lv [.int x] σ ↔ Q (some (.int x)) σ := yX_at (.ireturn, 1, 0, 0, 0, 0, []) rfl
theorem g107_14  : Y107 d Q 14 lv st σ ↔ zldI lv 2 (fun x => Y107 d Q 15 lv (.int x :: st) σ) := yX_at (.iload_n 2, 1, 0, 0, 0, 0, []) rfl
theorem g107_15  : Y107 d Q 15 lv st σ ↔ zldR lv 0 (fun x => Y107 d Q 16 lv (.ref x :: st) σ) := yX_at (.aload_n 0, 1, 0, 0, 0, 0, []) rfl
theorem g107_16 {c : Nat} : Y107 d Q 16 lv (.ref c :: st) σ ↔ zK c = 7 ∧ Y107 d Q 19 lv (zfv σ c 0 :: st) σ := yX_at (.getfield 7, 3, 7, 0, 220, 0, []) rfl
theorem g107_19  : Y107 d Q 19 lv st σ ↔ Y107 d Q 21 lv (.int 19 :: st) σ := yX_at (.bipush 19, 2, 0, 0, 0, 0, []) rfl
theorem g107_21  : Y107 d Q 21 lv st σ ↔ zldI lv 1 (fun x => Y107 d Q 22 lv (.int x :: st) σ) := yX_at (.iload_n 1, 1, 0, 0, 0, 0, []) rfl
theorem g107_22 {x y : Int32} : Y107 d Q 22 lv (.int y :: .int x :: st) σ ↔ Y107 d Q 23 lv (.int (x + y) :: st) σ := yX_at (.iadd, 1, 0, 0, 0, 0, []) rfl
theorem g107_23 {j : Int32} {c : Nat} : Y107 d Q 23 lv (.int j :: .ref c :: st) σ ↔ (zK c = 100 ∧ vp_in j (zLn c)) ∧ Y107 d Q 24 lv (.int (σ.1 c j.toNatClampNeg) :: st) σ := yX_at (.iaload, 1, 0, 0, 0, 0, []) rfl
theorem g107_24 {x y : Int32} : Y107 d Q 24 lv (.int y :: .int x :: st) σ ↔ (y ≤ x → Y107 d Q 43 lv st σ) ∧ (¬ y ≤ x → Y107 d Q 27 lv st σ) := yX_at (.if_icmp .ge 19, 3, 43, 0, 0, 0, []) rfl
theorem g107_27  : Y107 d Q 27 lv st σ ↔ zldR lv 0 (fun x => Y107 d Q 28 lv (.ref x :: st) σ) := yX_at (.aload_n 0, 1, 0, 0, 0, 0, []) rfl
theorem g107_28 {c : Nat} : Y107 d Q 28 lv (.ref c :: st) σ ↔ zK c = 7 ∧ Y107 d Q 31 lv (zfv σ c 0 :: st) σ := yX_at (.getfield 7, 3, 7, 0, 220, 0, []) rfl
theorem g107_31  : Y107 d Q 31 lv st σ ↔ Y107 d Q 33 lv (.int 23 :: st) σ := yX_at (.bipush 23, 2, 0, 0, 0, 0, []) rfl
theorem g107_33  : Y107 d Q 33 lv st σ ↔ Y107 d Q 34 lv (.int 5 :: st) σ := yX_at (.iconst 5, 1, 0, 0, 0, 0, []) rfl
theorem g107_34  : Y107 d Q 34 lv st σ ↔ zldI lv 1 (fun x => Y107 d Q 35 lv (.int x :: st) σ) := yX_at (.iload_n 1, 1, 0, 0, 0, 0, []) rfl
theorem g107_35 {x y : Int32} : Y107 d Q 35 lv (.int y :: .int x :: st) σ ↔ Y107 d Q 36 lv (.int (x * y) :: st) σ := yX_at (.imul, 1, 0, 0, 0, 0, []) rfl
theorem g107_36 {x y : Int32} : Y107 d Q 36 lv (.int y :: .int x :: st) σ ↔ Y107 d Q 37 lv (.int (x + y) :: st) σ := yX_at (.iadd, 1, 0, 0, 0, 0, []) rfl
theorem g107_37  : Y107 d Q 37 lv st σ ↔ zldI lv 2 (fun x => Y107 d Q 38 lv (.int x :: st) σ) := yX_at (.iload_n 2, 1, 0, 0, 0, 0, []) rfl
theorem g107_38 {x y : Int32} : Y107 d Q 38 lv (.int y :: .int x :: st) σ ↔ Y107 d Q 39 lv (.int (x + y) :: st) σ := yX_at (.iadd, 1, 0, 0, 0, 0, []) rfl
theorem g107_39 {j : Int32} {c : Nat} : Y107 d Q 39 lv (.int j :: .ref c :: st) σ ↔ (zK c = 100 ∧ vp_in j (zLn c)) ∧ Y107 d Q 40 lv (.int (σ.1 c j.toNatClampNeg) :: st) σ := yX_at (.iaload, 1, 0, 0, 0, 0, []) rfl
theorem g107_40  : Y107 d Q 40 lv st σ ↔ Y107 d Q 45 lv st σ := yX_at (.goto 5, 3, 45, 0, 0, 0, []) rfl
theorem g107_43  : Y107 d Q 43 lv st σ ↔ Y107 d Q 45 lv (.int (-5) :: st) σ := by
  rw [show (-5 : Int32) = (Int8.ofInt (-5)).toInt32 from by decide]
  exact yX_at (.bipush (-5), 2, 0, 0, 0, 0, []) rfl
theorem g107_45 {x : Int32} : Y107 d Q 45 lv [.int x] σ ↔ Q (some (.int x)) σ := yX_at (.ireturn, 1, 0, 0, 0, 0, []) rfl
end G107
def Y108 (d : Nat) (Q : Option Value → zSt → Prop) (pc : Nat) (lv : zLv) (st : List Value) (σ : zSt) : Prop := yX (yE d) ySn zt108 Q pc lv st σ
theorem C108 {d : Nat} {as : List Value} {σ : zSt} {P : Option Value → zSt → Prop} (hl : (lg_sl as).length ≤ 5) (h : Y108 d P 0 (lv_args 0 as) [] σ) : yC (d + 1) 108 as σ P := yC_of (by decide) hl h
section G108
variable {d : Nat} {Q : Option Value → zSt → Prop} {lv : zLv} {st : List Value} {σ : zSt}
theorem g108_0  : Y108 d Q 0 lv st σ ↔ zldR lv 0 (fun x => Y108 d Q 1 lv (.ref x :: st) σ) := yX_at (.aload_n 0, 1, 0, 0, 0, 0, []) rfl
theorem g108_1 {c : Nat} : Y108 d Q 1 lv (.ref c :: st) σ ↔ zK c = 7 ∧ Y108 d Q 4 lv (zfv σ c 0 :: st) σ := yX_at (.getfield 7, 3, 7, 0, 220, 0, []) rfl
theorem g108_4  : Y108 d Q 4 lv st σ ↔ Y108 d Q 6 lv (.int 19 :: st) σ := yX_at (.bipush 19, 2, 0, 0, 0, 0, []) rfl
theorem g108_6  : Y108 d Q 6 lv st σ ↔ zldI lv 1 (fun x => Y108 d Q 7 lv (.int x :: st) σ) := yX_at (.iload_n 1, 1, 0, 0, 0, 0, []) rfl
theorem g108_7 {x y : Int32} : Y108 d Q 7 lv (.int y :: .int x :: st) σ ↔ Y108 d Q 8 lv (.int (x + y) :: st) σ := yX_at (.iadd, 1, 0, 0, 0, 0, []) rfl
theorem g108_8 {j : Int32} {c : Nat} : Y108 d Q 8 lv (.int j :: .ref c :: st) σ ↔ (zK c = 100 ∧ vp_in j (zLn c)) ∧ Y108 d Q 9 lv (.int (σ.1 c j.toNatClampNeg) :: st) σ := yX_at (.iaload, 1, 0, 0, 0, 0, []) rfl
theorem g108_9 {x : Int32} : Y108 d Q 9 lv (.int x :: st) σ ↔ Y108 d Q 11 (zs1 4 (.int x) lv) st σ := yX_at (.istore 4, 2, 0, 0, 0, 0, []) rfl
theorem g108_11  : Y108 d Q 11 lv st σ ↔ zldI lv 4 (fun x => Y108 d Q 13 lv (.int x :: st) σ) := yX_at (.iload 4, 2, 0, 0, 0, 0, []) rfl
theorem g108_13  : Y108 d Q 13 lv st σ ↔ zldI lv 2 (fun x => Y108 d Q 14 lv (.int x :: st) σ) := yX_at (.iload_n 2, 1, 0, 0, 0, 0, []) rfl
theorem g108_14 {x y : Int32} : Y108 d Q 14 lv (.int y :: .int x :: st) σ ↔ (x ≤ y → Y108 d Q 53 lv st σ) ∧ (¬ x ≤ y → Y108 d Q 17 lv st σ) := yX_at (.if_icmp .le 39, 3, 53, 0, 0, 0, []) rfl
theorem g108_17  : Y108 d Q 17 lv st σ ↔ zldR lv 0 (fun x => Y108 d Q 18 lv (.ref x :: st) σ) := yX_at (.aload_n 0, 1, 0, 0, 0, 0, []) rfl
theorem g108_18 {c : Nat} : Y108 d Q 18 lv (.ref c :: st) σ ↔ zK c = 7 ∧ Y108 d Q 21 lv (zfv σ c 0 :: st) σ := yX_at (.getfield 7, 3, 7, 0, 220, 0, []) rfl
theorem g108_21  : Y108 d Q 21 lv st σ ↔ Y108 d Q 23 lv (.int 23 :: st) σ := yX_at (.bipush 23, 2, 0, 0, 0, 0, []) rfl
theorem g108_23  : Y108 d Q 23 lv st σ ↔ Y108 d Q 24 lv (.int 5 :: st) σ := yX_at (.iconst 5, 1, 0, 0, 0, 0, []) rfl
theorem g108_24  : Y108 d Q 24 lv st σ ↔ zldI lv 1 (fun x => Y108 d Q 25 lv (.int x :: st) σ) := yX_at (.iload_n 1, 1, 0, 0, 0, 0, []) rfl
theorem g108_25 {x y : Int32} : Y108 d Q 25 lv (.int y :: .int x :: st) σ ↔ Y108 d Q 26 lv (.int (x * y) :: st) σ := yX_at (.imul, 1, 0, 0, 0, 0, []) rfl
theorem g108_26 {x y : Int32} : Y108 d Q 26 lv (.int y :: .int x :: st) σ ↔ Y108 d Q 27 lv (.int (x + y) :: st) σ := yX_at (.iadd, 1, 0, 0, 0, 0, []) rfl
theorem g108_27  : Y108 d Q 27 lv st σ ↔ zldI lv 4 (fun x => Y108 d Q 29 lv (.int x :: st) σ) := yX_at (.iload 4, 2, 0, 0, 0, 0, []) rfl
theorem g108_29 {x y : Int32} : Y108 d Q 29 lv (.int y :: .int x :: st) σ ↔ Y108 d Q 30 lv (.int (x + y) :: st) σ := yX_at (.iadd, 1, 0, 0, 0, 0, []) rfl
theorem g108_30  : Y108 d Q 30 lv st σ ↔ zldR lv 0 (fun x => Y108 d Q 31 lv (.ref x :: st) σ) := yX_at (.aload_n 0, 1, 0, 0, 0, 0, []) rfl
theorem g108_31 {c : Nat} : Y108 d Q 31 lv (.ref c :: st) σ ↔ zK c = 7 ∧ Y108 d Q 34 lv (zfv σ c 0 :: st) σ := yX_at (.getfield 7, 3, 7, 0, 220, 0, []) rfl
theorem g108_34  : Y108 d Q 34 lv st σ ↔ Y108 d Q 36 lv (.int 23 :: st) σ := yX_at (.bipush 23, 2, 0, 0, 0, 0, []) rfl
theorem g108_36  : Y108 d Q 36 lv st σ ↔ Y108 d Q 37 lv (.int 5 :: st) σ := yX_at (.iconst 5, 1, 0, 0, 0, 0, []) rfl
theorem g108_37  : Y108 d Q 37 lv st σ ↔ zldI lv 1 (fun x => Y108 d Q 38 lv (.int x :: st) σ) := yX_at (.iload_n 1, 1, 0, 0, 0, 0, []) rfl
theorem g108_38 {x y : Int32} : Y108 d Q 38 lv (.int y :: .int x :: st) σ ↔ Y108 d Q 39 lv (.int (x * y) :: st) σ := yX_at (.imul, 1, 0, 0, 0, 0, []) rfl
theorem g108_39 {x y : Int32} : Y108 d Q 39 lv (.int y :: .int x :: st) σ ↔ Y108 d Q 40 lv (.int (x + y) :: st) σ := yX_at (.iadd, 1, 0, 0, 0, 0, []) rfl
theorem g108_40  : Y108 d Q 40 lv st σ ↔ zldI lv 4 (fun x => Y108 d Q 42 lv (.int x :: st) σ) := yX_at (.iload 4, 2, 0, 0, 0, 0, []) rfl
theorem g108_42 {x y : Int32} : Y108 d Q 42 lv (.int y :: .int x :: st) σ ↔ Y108 d Q 43 lv (.int (x + y) :: st) σ := yX_at (.iadd, 1, 0, 0, 0, 0, []) rfl
theorem g108_43  : Y108 d Q 43 lv st σ ↔ Y108 d Q 44 lv (.int 1 :: st) σ := yX_at (.iconst 1, 1, 0, 0, 0, 0, []) rfl
theorem g108_44 {x y : Int32} : Y108 d Q 44 lv (.int y :: .int x :: st) σ ↔ Y108 d Q 45 lv (.int (x - y) :: st) σ := yX_at (.isub, 1, 0, 0, 0, 0, []) rfl
theorem g108_45 {j : Int32} {c : Nat} : Y108 d Q 45 lv (.int j :: .ref c :: st) σ ↔ (zK c = 100 ∧ vp_in j (zLn c)) ∧ Y108 d Q 46 lv (.int (σ.1 c j.toNatClampNeg) :: st) σ := yX_at (.iaload, 1, 0, 0, 0, 0, []) rfl
theorem g108_46 {x j : Int32} {c : Nat} : Y108 d Q 46 lv (.int x :: .int j :: .ref c :: st) σ ↔ (zK c = 100 ∧ vp_in j (zLn c)) ∧ Y108 d Q 47 lv st (zwI σ c j.toNatClampNeg x) := yX_at (.iastore, 1, 0, 0, 0, 0, []) rfl
theorem g108_47  : Y108 d Q 47 lv st σ ↔ zldI lv 4 (fun x => Y108 d Q 50 (zs1 4 (.int (x + (-1))) lv) st σ) := by
  rw [show (-1 : Int32) = Int32.ofInt (-1) from by decide]
  exact yX_at (.iinc 4 (-1), 3, 0, 0, 0, 0, []) rfl
theorem g108_50  : Y108 d Q 50 lv st σ ↔ Y108 d Q 11 lv st σ := yX_at (.goto (-39), 3, 11, 0, 0, 0, []) rfl
theorem g108_53  : Y108 d Q 53 lv st σ ↔ zldR lv 0 (fun x => Y108 d Q 54 lv (.ref x :: st) σ) := yX_at (.aload_n 0, 1, 0, 0, 0, 0, []) rfl
theorem g108_54 {c : Nat} : Y108 d Q 54 lv (.ref c :: st) σ ↔ zK c = 7 ∧ Y108 d Q 57 lv (zfv σ c 0 :: st) σ := yX_at (.getfield 7, 3, 7, 0, 220, 0, []) rfl
theorem g108_57  : Y108 d Q 57 lv st σ ↔ Y108 d Q 59 lv (.int 23 :: st) σ := yX_at (.bipush 23, 2, 0, 0, 0, 0, []) rfl
theorem g108_59  : Y108 d Q 59 lv st σ ↔ Y108 d Q 60 lv (.int 5 :: st) σ := yX_at (.iconst 5, 1, 0, 0, 0, 0, []) rfl
theorem g108_60  : Y108 d Q 60 lv st σ ↔ zldI lv 1 (fun x => Y108 d Q 61 lv (.int x :: st) σ) := yX_at (.iload_n 1, 1, 0, 0, 0, 0, []) rfl
theorem g108_61 {x y : Int32} : Y108 d Q 61 lv (.int y :: .int x :: st) σ ↔ Y108 d Q 62 lv (.int (x * y) :: st) σ := yX_at (.imul, 1, 0, 0, 0, 0, []) rfl
theorem g108_62 {x y : Int32} : Y108 d Q 62 lv (.int y :: .int x :: st) σ ↔ Y108 d Q 63 lv (.int (x + y) :: st) σ := yX_at (.iadd, 1, 0, 0, 0, 0, []) rfl
theorem g108_63  : Y108 d Q 63 lv st σ ↔ zldI lv 2 (fun x => Y108 d Q 64 lv (.int x :: st) σ) := yX_at (.iload_n 2, 1, 0, 0, 0, 0, []) rfl
theorem g108_64 {x y : Int32} : Y108 d Q 64 lv (.int y :: .int x :: st) σ ↔ Y108 d Q 65 lv (.int (x + y) :: st) σ := yX_at (.iadd, 1, 0, 0, 0, 0, []) rfl
theorem g108_65  : Y108 d Q 65 lv st σ ↔ zldI lv 3 (fun x => Y108 d Q 66 lv (.int x :: st) σ) := yX_at (.iload_n 3, 1, 0, 0, 0, 0, []) rfl
theorem g108_66 {x j : Int32} {c : Nat} : Y108 d Q 66 lv (.int x :: .int j :: .ref c :: st) σ ↔ (zK c = 100 ∧ vp_in j (zLn c)) ∧ Y108 d Q 67 lv st (zwI σ c j.toNatClampNeg x) := yX_at (.iastore, 1, 0, 0, 0, 0, []) rfl
theorem g108_67  : Y108 d Q 67 lv st σ ↔ zldR lv 0 (fun x => Y108 d Q 68 lv (.ref x :: st) σ) := yX_at (.aload_n 0, 1, 0, 0, 0, 0, []) rfl
theorem g108_68 {c : Nat} : Y108 d Q 68 lv (.ref c :: st) σ ↔ zK c = 7 ∧ Y108 d Q 71 lv (zfv σ c 0 :: st) σ := yX_at (.getfield 7, 3, 7, 0, 220, 0, []) rfl
theorem g108_71  : Y108 d Q 71 lv st σ ↔ Y108 d Q 73 lv (.int 19 :: st) σ := yX_at (.bipush 19, 2, 0, 0, 0, 0, []) rfl
theorem g108_73  : Y108 d Q 73 lv st σ ↔ zldI lv 1 (fun x => Y108 d Q 74 lv (.int x :: st) σ) := yX_at (.iload_n 1, 1, 0, 0, 0, 0, []) rfl
theorem g108_74 {x y : Int32} : Y108 d Q 74 lv (.int y :: .int x :: st) σ ↔ Y108 d Q 75 lv (.int (x + y) :: st) σ := yX_at (.iadd, 1, 0, 0, 0, 0, []) rfl
theorem g108_75  : Y108 d Q 75 lv st σ ↔ zdup2 st (fun r => Y108 d Q 76 lv r σ) := yX_at (.dup2, 1, 0, 0, 0, 0, []) rfl
theorem g108_76 {j : Int32} {c : Nat} : Y108 d Q 76 lv (.int j :: .ref c :: st) σ ↔ (zK c = 100 ∧ vp_in j (zLn c)) ∧ Y108 d Q 77 lv (.int (σ.1 c j.toNatClampNeg) :: st) σ := yX_at (.iaload, 1, 0, 0, 0, 0, []) rfl
theorem g108_77  : Y108 d Q 77 lv st σ ↔ Y108 d Q 78 lv (.int 1 :: st) σ := yX_at (.iconst 1, 1, 0, 0, 0, 0, []) rfl
theorem g108_78 {x y : Int32} : Y108 d Q 78 lv (.int y :: .int x :: st) σ ↔ Y108 d Q 79 lv (.int (x + y) :: st) σ := yX_at (.iadd, 1, 0, 0, 0, 0, []) rfl
theorem g108_79 {x j : Int32} {c : Nat} : Y108 d Q 79 lv (.int x :: .int j :: .ref c :: st) σ ↔ (zK c = 100 ∧ vp_in j (zLn c)) ∧ Y108 d Q 80 lv st (zwI σ c j.toNatClampNeg x) := yX_at (.iastore, 1, 0, 0, 0, 0, []) rfl
theorem g108_80  : Y108 d Q 80 lv st σ ↔ zldR lv 0 (fun x => Y108 d Q 81 lv (.ref x :: st) σ) := yX_at (.aload_n 0, 1, 0, 0, 0, 0, []) rfl
theorem g108_81 {c : Nat} : Y108 d Q 81 lv (.ref c :: st) σ ↔ zK c = 7 ∧ Y108 d Q 84 lv (zfv σ c 0 :: st) σ := yX_at (.getfield 7, 3, 7, 0, 220, 0, []) rfl
theorem g108_84  : Y108 d Q 84 lv st σ ↔ Y108 d Q 85 lv (.int 3 :: st) σ := yX_at (.iconst 3, 1, 0, 0, 0, 0, []) rfl
theorem g108_85  : Y108 d Q 85 lv st σ ↔ zldI lv 3 (fun x => Y108 d Q 86 lv (.int x :: st) σ) := yX_at (.iload_n 3, 1, 0, 0, 0, 0, []) rfl
theorem g108_86 {x y : Int32} : Y108 d Q 86 lv (.int y :: .int x :: st) σ ↔ Y108 d Q 87 lv (.int (x + y) :: st) σ := yX_at (.iadd, 1, 0, 0, 0, 0, []) rfl
theorem g108_87  : Y108 d Q 87 lv st σ ↔ Y108 d Q 88 lv (.int 1 :: st) σ := yX_at (.iconst 1, 1, 0, 0, 0, 0, []) rfl
theorem g108_88 {x j : Int32} {c : Nat} : Y108 d Q 88 lv (.int x :: .int j :: .ref c :: st) σ ↔ (zK c = 100 ∧ vp_in j (zLn c)) ∧ Y108 d Q 89 lv st (zwI σ c j.toNatClampNeg x) := yX_at (.iastore, 1, 0, 0, 0, 0, []) rfl
theorem g108_89  : Y108 d Q 89 lv [] σ ↔ Q none σ := yX_at (.return_, 1, 0, 0, 0, 0, []) rfl
end G108
def Y109 (d : Nat) (Q : Option Value → zSt → Prop) (pc : Nat) (lv : zLv) (st : List Value) (σ : zSt) : Prop := yX (yE d) ySn zt109 Q pc lv st σ
theorem C109 {d : Nat} {as : List Value} {σ : zSt} {P : Option Value → zSt → Prop} (hl : (lg_sl as).length ≤ 4) (h : Y109 d P 0 (lv_args 0 as) [] σ) : yC (d + 1) 109 as σ P := yC_of (by decide) hl h
section G109
variable {d : Nat} {Q : Option Value → zSt → Prop} {lv : zLv} {st : List Value} {σ : zSt}
theorem g109_0  : Y109 d Q 0 lv st σ ↔ Y109 d Q 1 lv (.int 0 :: st) σ := yX_at (.iconst 0, 1, 0, 0, 0, 0, []) rfl
theorem g109_1 {x : Int32} : Y109 d Q 1 lv (.int x :: st) σ ↔ Y109 d Q 2 (zs1 3 (.int x) lv) st σ := yX_at (.istore_n 3, 1, 0, 0, 0, 0, []) rfl
theorem g109_2  : Y109 d Q 2 lv st σ ↔ zldR lv 0 (fun x => Y109 d Q 3 lv (.ref x :: st) σ) := yX_at (.aload_n 0, 1, 0, 0, 0, 0, []) rfl
theorem g109_3 {c : Nat} : Y109 d Q 3 lv (.ref c :: st) σ ↔ zK c = 7 ∧ Y109 d Q 6 lv (zfv σ c 0 :: st) σ := yX_at (.getfield 7, 3, 7, 0, 220, 0, []) rfl
theorem g109_6  : Y109 d Q 6 lv st σ ↔ Y109 d Q 8 lv (.int 23 :: st) σ := yX_at (.bipush 23, 2, 0, 0, 0, 0, []) rfl
theorem g109_8  : Y109 d Q 8 lv st σ ↔ Y109 d Q 9 lv (.int 5 :: st) σ := yX_at (.iconst 5, 1, 0, 0, 0, 0, []) rfl
theorem g109_9  : Y109 d Q 9 lv st σ ↔ zldI lv 1 (fun x => Y109 d Q 10 lv (.int x :: st) σ) := yX_at (.iload_n 1, 1, 0, 0, 0, 0, []) rfl
theorem g109_10 {x y : Int32} : Y109 d Q 10 lv (.int y :: .int x :: st) σ ↔ Y109 d Q 11 lv (.int (x * y) :: st) σ := yX_at (.imul, 1, 0, 0, 0, 0, []) rfl
theorem g109_11 {x y : Int32} : Y109 d Q 11 lv (.int y :: .int x :: st) σ ↔ Y109 d Q 12 lv (.int (x + y) :: st) σ := yX_at (.iadd, 1, 0, 0, 0, 0, []) rfl
theorem g109_12  : Y109 d Q 12 lv st σ ↔ zldI lv 3 (fun x => Y109 d Q 13 lv (.int x :: st) σ) := yX_at (.iload_n 3, 1, 0, 0, 0, 0, []) rfl
theorem g109_13 {x y : Int32} : Y109 d Q 13 lv (.int y :: .int x :: st) σ ↔ Y109 d Q 14 lv (.int (x + y) :: st) σ := yX_at (.iadd, 1, 0, 0, 0, 0, []) rfl
theorem g109_14 {j : Int32} {c : Nat} : Y109 d Q 14 lv (.int j :: .ref c :: st) σ ↔ (zK c = 100 ∧ vp_in j (zLn c)) ∧ Y109 d Q 15 lv (.int (σ.1 c j.toNatClampNeg) :: st) σ := yX_at (.iaload, 1, 0, 0, 0, 0, []) rfl
theorem g109_15  : Y109 d Q 15 lv st σ ↔ zldI lv 2 (fun x => Y109 d Q 16 lv (.int x :: st) σ) := yX_at (.iload_n 2, 1, 0, 0, 0, 0, []) rfl
theorem g109_16 {x y : Int32} : Y109 d Q 16 lv (.int y :: .int x :: st) σ ↔ (x = y → Y109 d Q 25 lv st σ) ∧ (¬ x = y → Y109 d Q 19 lv st σ) := yX_at (.if_icmp .eq 9, 3, 25, 0, 0, 0, []) rfl
theorem g109_19  : Y109 d Q 19 lv st σ ↔ zldI lv 3 (fun x => Y109 d Q 22 (zs1 3 (.int (x + 1)) lv) st σ) := yX_at (.iinc 3 1, 3, 0, 0, 0, 0, []) rfl
theorem g109_22  : Y109 d Q 22 lv st σ ↔ Y109 d Q 2 lv st σ := yX_at (.goto (-20), 3, 2, 0, 0, 0, []) rfl
theorem g109_25  : Y109 d Q 25 lv st σ ↔ zldI lv 3 (fun x => Y109 d Q 26 lv (.int x :: st) σ) := yX_at (.iload_n 3, 1, 0, 0, 0, 0, []) rfl
theorem g109_26 {x : Int32} : Y109 d Q 26 lv [.int x] σ ↔ Q (some (.int x)) σ := yX_at (.ireturn, 1, 0, 0, 0, 0, []) rfl
end G109
def Y110 (d : Nat) (Q : Option Value → zSt → Prop) (pc : Nat) (lv : zLv) (st : List Value) (σ : zSt) : Prop := yX (yE d) ySn zt110 Q pc lv st σ
theorem C110 {d : Nat} {as : List Value} {σ : zSt} {P : Option Value → zSt → Prop} (hl : (lg_sl as).length ≤ 4) (h : Y110 d P 0 (lv_args 0 as) [] σ) : yC (d + 1) 110 as σ P := yC_of (by decide) hl h
section G110
variable {d : Nat} {Q : Option Value → zSt → Prop} {lv : zLv} {st : List Value} {σ : zSt}
theorem g110_0  : Y110 d Q 0 lv st σ ↔ zldR lv 0 (fun x => Y110 d Q 1 lv (.ref x :: st) σ) := yX_at (.aload_n 0, 1, 0, 0, 0, 0, []) rfl
theorem g110_1 {c : Nat} : Y110 d Q 1 lv (.ref c :: st) σ ↔ zK c = 7 ∧ Y110 d Q 4 lv (zfv σ c 0 :: st) σ := yX_at (.getfield 7, 3, 7, 0, 220, 0, []) rfl
theorem g110_4  : Y110 d Q 4 lv st σ ↔ Y110 d Q 6 lv (.int 19 :: st) σ := yX_at (.bipush 19, 2, 0, 0, 0, 0, []) rfl
theorem g110_6  : Y110 d Q 6 lv st σ ↔ zldI lv 1 (fun x => Y110 d Q 7 lv (.int x :: st) σ) := yX_at (.iload_n 1, 1, 0, 0, 0, 0, []) rfl
theorem g110_7 {x y : Int32} : Y110 d Q 7 lv (.int y :: .int x :: st) σ ↔ Y110 d Q 8 lv (.int (x + y) :: st) σ := yX_at (.iadd, 1, 0, 0, 0, 0, []) rfl
theorem g110_8  : Y110 d Q 8 lv st σ ↔ zdup2 st (fun r => Y110 d Q 9 lv r σ) := yX_at (.dup2, 1, 0, 0, 0, 0, []) rfl
theorem g110_9 {j : Int32} {c : Nat} : Y110 d Q 9 lv (.int j :: .ref c :: st) σ ↔ (zK c = 100 ∧ vp_in j (zLn c)) ∧ Y110 d Q 10 lv (.int (σ.1 c j.toNatClampNeg) :: st) σ := yX_at (.iaload, 1, 0, 0, 0, 0, []) rfl
theorem g110_10  : Y110 d Q 10 lv st σ ↔ Y110 d Q 11 lv (.int 1 :: st) σ := yX_at (.iconst 1, 1, 0, 0, 0, 0, []) rfl
theorem g110_11 {x y : Int32} : Y110 d Q 11 lv (.int y :: .int x :: st) σ ↔ Y110 d Q 12 lv (.int (x - y) :: st) σ := yX_at (.isub, 1, 0, 0, 0, 0, []) rfl
theorem g110_12 {x j : Int32} {c : Nat} : Y110 d Q 12 lv (.int x :: .int j :: .ref c :: st) σ ↔ (zK c = 100 ∧ vp_in j (zLn c)) ∧ Y110 d Q 13 lv st (zwI σ c j.toNatClampNeg x) := yX_at (.iastore, 1, 0, 0, 0, 0, []) rfl
theorem g110_13  : Y110 d Q 13 lv st σ ↔ zldR lv 0 (fun x => Y110 d Q 14 lv (.ref x :: st) σ) := yX_at (.aload_n 0, 1, 0, 0, 0, 0, []) rfl
theorem g110_14  : Y110 d Q 14 lv st σ ↔ zldI lv 1 (fun x => Y110 d Q 15 lv (.int x :: st) σ) := yX_at (.iload_n 1, 1, 0, 0, 0, 0, []) rfl
theorem g110_15  : Y110 d Q 15 lv st σ ↔ zldI lv 2 (fun x => Y110 d Q 16 lv (.int x :: st) σ) := yX_at (.iload_n 2, 1, 0, 0, 0, 0, []) rfl
theorem g110_16 {v0 v1 : Value} {c : Nat} : Y110 d Q 16 lv (v1 :: v0 :: .ref c :: st) σ ↔ (zrcv 7 c ∧ zrm st) ∧ ∃ rv σ', yE d 109 [.ref c, v0, v1] σ rv σ' ∧ Y110 d Q 19 lv (rv.toList ++ st) σ' := yX_at (.invokevirtual 151, 3, 109, 2, 227, 0, []) rfl
theorem g110_19 {x : Int32} : Y110 d Q 19 lv (.int x :: st) σ ↔ Y110 d Q 20 (zs1 3 (.int x) lv) st σ := yX_at (.istore_n 3, 1, 0, 0, 0, 0, []) rfl
theorem g110_20  : Y110 d Q 20 lv st σ ↔ zldI lv 3 (fun x => Y110 d Q 21 lv (.int x :: st) σ) := yX_at (.iload_n 3, 1, 0, 0, 0, 0, []) rfl
theorem g110_21  : Y110 d Q 21 lv st σ ↔ zldR lv 0 (fun x => Y110 d Q 22 lv (.ref x :: st) σ) := yX_at (.aload_n 0, 1, 0, 0, 0, 0, []) rfl
theorem g110_22 {c : Nat} : Y110 d Q 22 lv (.ref c :: st) σ ↔ zK c = 7 ∧ Y110 d Q 25 lv (zfv σ c 0 :: st) σ := yX_at (.getfield 7, 3, 7, 0, 220, 0, []) rfl
theorem g110_25  : Y110 d Q 25 lv st σ ↔ Y110 d Q 27 lv (.int 19 :: st) σ := yX_at (.bipush 19, 2, 0, 0, 0, 0, []) rfl
theorem g110_27  : Y110 d Q 27 lv st σ ↔ zldI lv 1 (fun x => Y110 d Q 28 lv (.int x :: st) σ) := yX_at (.iload_n 1, 1, 0, 0, 0, 0, []) rfl
theorem g110_28 {x y : Int32} : Y110 d Q 28 lv (.int y :: .int x :: st) σ ↔ Y110 d Q 29 lv (.int (x + y) :: st) σ := yX_at (.iadd, 1, 0, 0, 0, 0, []) rfl
theorem g110_29 {j : Int32} {c : Nat} : Y110 d Q 29 lv (.int j :: .ref c :: st) σ ↔ (zK c = 100 ∧ vp_in j (zLn c)) ∧ Y110 d Q 30 lv (.int (σ.1 c j.toNatClampNeg) :: st) σ := yX_at (.iaload, 1, 0, 0, 0, 0, []) rfl
theorem g110_30 {x y : Int32} : Y110 d Q 30 lv (.int y :: .int x :: st) σ ↔ (y ≤ x → Y110 d Q 67 lv st σ) ∧ (¬ y ≤ x → Y110 d Q 33 lv st σ) := yX_at (.if_icmp .ge 37, 3, 67, 0, 0, 0, []) rfl
theorem g110_33  : Y110 d Q 33 lv st σ ↔ zldR lv 0 (fun x => Y110 d Q 34 lv (.ref x :: st) σ) := yX_at (.aload_n 0, 1, 0, 0, 0, 0, []) rfl
theorem g110_34 {c : Nat} : Y110 d Q 34 lv (.ref c :: st) σ ↔ zK c = 7 ∧ Y110 d Q 37 lv (zfv σ c 0 :: st) σ := yX_at (.getfield 7, 3, 7, 0, 220, 0, []) rfl
theorem g110_37  : Y110 d Q 37 lv st σ ↔ Y110 d Q 39 lv (.int 23 :: st) σ := yX_at (.bipush 23, 2, 0, 0, 0, 0, []) rfl
theorem g110_39  : Y110 d Q 39 lv st σ ↔ Y110 d Q 40 lv (.int 5 :: st) σ := yX_at (.iconst 5, 1, 0, 0, 0, 0, []) rfl
theorem g110_40  : Y110 d Q 40 lv st σ ↔ zldI lv 1 (fun x => Y110 d Q 41 lv (.int x :: st) σ) := yX_at (.iload_n 1, 1, 0, 0, 0, 0, []) rfl
theorem g110_41 {x y : Int32} : Y110 d Q 41 lv (.int y :: .int x :: st) σ ↔ Y110 d Q 42 lv (.int (x * y) :: st) σ := yX_at (.imul, 1, 0, 0, 0, 0, []) rfl
theorem g110_42 {x y : Int32} : Y110 d Q 42 lv (.int y :: .int x :: st) σ ↔ Y110 d Q 43 lv (.int (x + y) :: st) σ := yX_at (.iadd, 1, 0, 0, 0, 0, []) rfl
theorem g110_43  : Y110 d Q 43 lv st σ ↔ zldI lv 3 (fun x => Y110 d Q 44 lv (.int x :: st) σ) := yX_at (.iload_n 3, 1, 0, 0, 0, 0, []) rfl
theorem g110_44 {x y : Int32} : Y110 d Q 44 lv (.int y :: .int x :: st) σ ↔ Y110 d Q 45 lv (.int (x + y) :: st) σ := yX_at (.iadd, 1, 0, 0, 0, 0, []) rfl
theorem g110_45  : Y110 d Q 45 lv st σ ↔ zldR lv 0 (fun x => Y110 d Q 46 lv (.ref x :: st) σ) := yX_at (.aload_n 0, 1, 0, 0, 0, 0, []) rfl
theorem g110_46 {c : Nat} : Y110 d Q 46 lv (.ref c :: st) σ ↔ zK c = 7 ∧ Y110 d Q 49 lv (zfv σ c 0 :: st) σ := yX_at (.getfield 7, 3, 7, 0, 220, 0, []) rfl
theorem g110_49  : Y110 d Q 49 lv st σ ↔ Y110 d Q 51 lv (.int 23 :: st) σ := yX_at (.bipush 23, 2, 0, 0, 0, 0, []) rfl
theorem g110_51  : Y110 d Q 51 lv st σ ↔ Y110 d Q 52 lv (.int 5 :: st) σ := yX_at (.iconst 5, 1, 0, 0, 0, 0, []) rfl
theorem g110_52  : Y110 d Q 52 lv st σ ↔ zldI lv 1 (fun x => Y110 d Q 53 lv (.int x :: st) σ) := yX_at (.iload_n 1, 1, 0, 0, 0, 0, []) rfl
theorem g110_53 {x y : Int32} : Y110 d Q 53 lv (.int y :: .int x :: st) σ ↔ Y110 d Q 54 lv (.int (x * y) :: st) σ := yX_at (.imul, 1, 0, 0, 0, 0, []) rfl
theorem g110_54 {x y : Int32} : Y110 d Q 54 lv (.int y :: .int x :: st) σ ↔ Y110 d Q 55 lv (.int (x + y) :: st) σ := yX_at (.iadd, 1, 0, 0, 0, 0, []) rfl
theorem g110_55  : Y110 d Q 55 lv st σ ↔ zldI lv 3 (fun x => Y110 d Q 56 lv (.int x :: st) σ) := yX_at (.iload_n 3, 1, 0, 0, 0, 0, []) rfl
theorem g110_56 {x y : Int32} : Y110 d Q 56 lv (.int y :: .int x :: st) σ ↔ Y110 d Q 57 lv (.int (x + y) :: st) σ := yX_at (.iadd, 1, 0, 0, 0, 0, []) rfl
theorem g110_57  : Y110 d Q 57 lv st σ ↔ Y110 d Q 58 lv (.int 1 :: st) σ := yX_at (.iconst 1, 1, 0, 0, 0, 0, []) rfl
theorem g110_58 {x y : Int32} : Y110 d Q 58 lv (.int y :: .int x :: st) σ ↔ Y110 d Q 59 lv (.int (x + y) :: st) σ := yX_at (.iadd, 1, 0, 0, 0, 0, []) rfl
theorem g110_59 {j : Int32} {c : Nat} : Y110 d Q 59 lv (.int j :: .ref c :: st) σ ↔ (zK c = 100 ∧ vp_in j (zLn c)) ∧ Y110 d Q 60 lv (.int (σ.1 c j.toNatClampNeg) :: st) σ := yX_at (.iaload, 1, 0, 0, 0, 0, []) rfl
theorem g110_60 {x j : Int32} {c : Nat} : Y110 d Q 60 lv (.int x :: .int j :: .ref c :: st) σ ↔ (zK c = 100 ∧ vp_in j (zLn c)) ∧ Y110 d Q 61 lv st (zwI σ c j.toNatClampNeg x) := yX_at (.iastore, 1, 0, 0, 0, 0, []) rfl
theorem g110_61  : Y110 d Q 61 lv st σ ↔ zldI lv 3 (fun x => Y110 d Q 64 (zs1 3 (.int (x + 1)) lv) st σ) := yX_at (.iinc 3 1, 3, 0, 0, 0, 0, []) rfl
theorem g110_64  : Y110 d Q 64 lv st σ ↔ Y110 d Q 20 lv st σ := yX_at (.goto (-44), 3, 20, 0, 0, 0, []) rfl
theorem g110_67  : Y110 d Q 67 lv [] σ ↔ Q none σ := yX_at (.return_, 1, 0, 0, 0, 0, []) rfl
end G110
def Y111 (d : Nat) (Q : Option Value → zSt → Prop) (pc : Nat) (lv : zLv) (st : List Value) (σ : zSt) : Prop := yX (yE d) ySn zt111 Q pc lv st σ
theorem C111 {d : Nat} {as : List Value} {σ : zSt} {P : Option Value → zSt → Prop} (hl : (lg_sl as).length ≤ 6) (h : Y111 d P 0 (lv_args 0 as) [] σ) : yC (d + 1) 111 as σ P := yC_of (by decide) hl h
section G111
variable {d : Nat} {Q : Option Value → zSt → Prop} {lv : zLv} {st : List Value} {σ : zSt}
theorem g111_0  : Y111 d Q 0 lv st σ ↔ zldR lv 0 (fun x => Y111 d Q 1 lv (.ref x :: st) σ) := yX_at (.aload_n 0, 1, 0, 0, 0, 0, []) rfl
theorem g111_1 {c : Nat} : Y111 d Q 1 lv (.ref c :: st) σ ↔ zK c = 7 ∧ Y111 d Q 4 lv (zfv σ c 0 :: st) σ := yX_at (.getfield 7, 3, 7, 0, 220, 0, []) rfl
theorem g111_4  : Y111 d Q 4 lv st σ ↔ Y111 d Q 6 lv (.int 43 :: st) σ := yX_at (.bipush 43, 2, 0, 0, 0, 0, []) rfl
theorem g111_6 {j : Int32} {c : Nat} : Y111 d Q 6 lv (.int j :: .ref c :: st) σ ↔ (zK c = 100 ∧ vp_in j (zLn c)) ∧ Y111 d Q 7 lv (.int (σ.1 c j.toNatClampNeg) :: st) σ := yX_at (.iaload, 1, 0, 0, 0, 0, []) rfl
theorem g111_7  : Y111 d Q 7 lv st σ ↔ Y111 d Q 9 lv (.int 12 :: st) σ := yX_at (.bipush 12, 2, 0, 0, 0, 0, []) rfl
theorem g111_9 {x y : Int32} : Y111 d Q 9 lv (.int y :: .int x :: st) σ ↔ (¬ x = y → Y111 d Q 61 lv st σ) ∧ (x = y → Y111 d Q 12 lv st σ) := yX_at (.if_icmp .ne 52, 3, 61, 0, 0, 0, []) rfl
theorem g111_12  : Y111 d Q 12 lv st σ ↔ Y111 d Q 13 lv (.int 0 :: st) σ := yX_at (.iconst 0, 1, 0, 0, 0, 0, []) rfl
theorem g111_13 {x : Int32} : Y111 d Q 13 lv (.int x :: st) σ ↔ Y111 d Q 15 (zs1 5 (.int x) lv) st σ := yX_at (.istore 5, 2, 0, 0, 0, 0, []) rfl
theorem g111_15  : Y111 d Q 15 lv st σ ↔ zldI lv 5 (fun x => Y111 d Q 17 lv (.int x :: st) σ) := yX_at (.iload 5, 2, 0, 0, 0, 0, []) rfl
theorem g111_17  : Y111 d Q 17 lv st σ ↔ Y111 d Q 19 lv (.int 44 :: st) σ := yX_at (.bipush 44, 2, 0, 0, 0, 0, []) rfl
theorem g111_19 {x y : Int32} : Y111 d Q 19 lv (.int y :: .int x :: st) σ ↔ (y ≤ x → Y111 d Q 50 lv st σ) ∧ (¬ y ≤ x → Y111 d Q 22 lv st σ) := yX_at (.if_icmp .ge 31, 3, 50, 0, 0, 0, []) rfl
theorem g111_22  : Y111 d Q 22 lv st σ ↔ zldR lv 0 (fun x => Y111 d Q 23 lv (.ref x :: st) σ) := yX_at (.aload_n 0, 1, 0, 0, 0, 0, []) rfl
theorem g111_23 {c : Nat} : Y111 d Q 23 lv (.ref c :: st) σ ↔ zK c = 7 ∧ Y111 d Q 26 lv (zfv σ c 0 :: st) σ := yX_at (.getfield 7, 3, 7, 0, 220, 0, []) rfl
theorem g111_26  : Y111 d Q 26 lv st σ ↔ Y111 d Q 28 lv (.int 44 :: st) σ := yX_at (.bipush 44, 2, 0, 0, 0, 0, []) rfl
theorem g111_28  : Y111 d Q 28 lv st σ ↔ zldI lv 5 (fun x => Y111 d Q 30 lv (.int x :: st) σ) := yX_at (.iload 5, 2, 0, 0, 0, 0, []) rfl
theorem g111_30 {x y : Int32} : Y111 d Q 30 lv (.int y :: .int x :: st) σ ↔ Y111 d Q 31 lv (.int (x + y) :: st) σ := yX_at (.iadd, 1, 0, 0, 0, 0, []) rfl
theorem g111_31  : Y111 d Q 31 lv st σ ↔ zldR lv 0 (fun x => Y111 d Q 32 lv (.ref x :: st) σ) := yX_at (.aload_n 0, 1, 0, 0, 0, 0, []) rfl
theorem g111_32 {c : Nat} : Y111 d Q 32 lv (.ref c :: st) σ ↔ zK c = 7 ∧ Y111 d Q 35 lv (zfv σ c 0 :: st) σ := yX_at (.getfield 7, 3, 7, 0, 220, 0, []) rfl
theorem g111_35  : Y111 d Q 35 lv st σ ↔ Y111 d Q 37 lv (.int 44 :: st) σ := yX_at (.bipush 44, 2, 0, 0, 0, 0, []) rfl
theorem g111_37  : Y111 d Q 37 lv st σ ↔ zldI lv 5 (fun x => Y111 d Q 39 lv (.int x :: st) σ) := yX_at (.iload 5, 2, 0, 0, 0, 0, []) rfl
theorem g111_39 {x y : Int32} : Y111 d Q 39 lv (.int y :: .int x :: st) σ ↔ Y111 d Q 40 lv (.int (x + y) :: st) σ := yX_at (.iadd, 1, 0, 0, 0, 0, []) rfl
theorem g111_40  : Y111 d Q 40 lv st σ ↔ Y111 d Q 41 lv (.int 4 :: st) σ := yX_at (.iconst 4, 1, 0, 0, 0, 0, []) rfl
theorem g111_41 {x y : Int32} : Y111 d Q 41 lv (.int y :: .int x :: st) σ ↔ Y111 d Q 42 lv (.int (x + y) :: st) σ := yX_at (.iadd, 1, 0, 0, 0, 0, []) rfl
theorem g111_42 {j : Int32} {c : Nat} : Y111 d Q 42 lv (.int j :: .ref c :: st) σ ↔ (zK c = 100 ∧ vp_in j (zLn c)) ∧ Y111 d Q 43 lv (.int (σ.1 c j.toNatClampNeg) :: st) σ := yX_at (.iaload, 1, 0, 0, 0, 0, []) rfl
theorem g111_43 {x j : Int32} {c : Nat} : Y111 d Q 43 lv (.int x :: .int j :: .ref c :: st) σ ↔ (zK c = 100 ∧ vp_in j (zLn c)) ∧ Y111 d Q 44 lv st (zwI σ c j.toNatClampNeg x) := yX_at (.iastore, 1, 0, 0, 0, 0, []) rfl
theorem g111_44  : Y111 d Q 44 lv st σ ↔ zldI lv 5 (fun x => Y111 d Q 47 (zs1 5 (.int (x + 1)) lv) st σ) := yX_at (.iinc 5 1, 3, 0, 0, 0, 0, []) rfl
theorem g111_47  : Y111 d Q 47 lv st σ ↔ Y111 d Q 15 lv st σ := yX_at (.goto (-32), 3, 15, 0, 0, 0, []) rfl
theorem g111_50  : Y111 d Q 50 lv st σ ↔ zldR lv 0 (fun x => Y111 d Q 51 lv (.ref x :: st) σ) := yX_at (.aload_n 0, 1, 0, 0, 0, 0, []) rfl
theorem g111_51 {c : Nat} : Y111 d Q 51 lv (.ref c :: st) σ ↔ zK c = 7 ∧ Y111 d Q 54 lv (zfv σ c 0 :: st) σ := yX_at (.getfield 7, 3, 7, 0, 220, 0, []) rfl
theorem g111_54  : Y111 d Q 54 lv st σ ↔ Y111 d Q 56 lv (.int 43 :: st) σ := yX_at (.bipush 43, 2, 0, 0, 0, 0, []) rfl
theorem g111_56  : Y111 d Q 56 lv st σ ↔ zdup2 st (fun r => Y111 d Q 57 lv r σ) := yX_at (.dup2, 1, 0, 0, 0, 0, []) rfl
theorem g111_57 {j : Int32} {c : Nat} : Y111 d Q 57 lv (.int j :: .ref c :: st) σ ↔ (zK c = 100 ∧ vp_in j (zLn c)) ∧ Y111 d Q 58 lv (.int (σ.1 c j.toNatClampNeg) :: st) σ := yX_at (.iaload, 1, 0, 0, 0, 0, []) rfl
theorem g111_58  : Y111 d Q 58 lv st σ ↔ Y111 d Q 59 lv (.int 1 :: st) σ := yX_at (.iconst 1, 1, 0, 0, 0, 0, []) rfl
theorem g111_59 {x y : Int32} : Y111 d Q 59 lv (.int y :: .int x :: st) σ ↔ Y111 d Q 60 lv (.int (x - y) :: st) σ := yX_at (.isub, 1, 0, 0, 0, 0, []) rfl
theorem g111_60 {x j : Int32} {c : Nat} : Y111 d Q 60 lv (.int x :: .int j :: .ref c :: st) σ ↔ (zK c = 100 ∧ vp_in j (zLn c)) ∧ Y111 d Q 61 lv st (zwI σ c j.toNatClampNeg x) := yX_at (.iastore, 1, 0, 0, 0, 0, []) rfl
theorem g111_61  : Y111 d Q 61 lv st σ ↔ Y111 d Q 63 lv (.int 44 :: st) σ := yX_at (.bipush 44, 2, 0, 0, 0, 0, []) rfl
theorem g111_63  : Y111 d Q 63 lv st σ ↔ Y111 d Q 64 lv (.int 4 :: st) σ := yX_at (.iconst 4, 1, 0, 0, 0, 0, []) rfl
theorem g111_64  : Y111 d Q 64 lv st σ ↔ zldR lv 0 (fun x => Y111 d Q 65 lv (.ref x :: st) σ) := yX_at (.aload_n 0, 1, 0, 0, 0, 0, []) rfl
theorem g111_65 {c : Nat} : Y111 d Q 65 lv (.ref c :: st) σ ↔ zK c = 7 ∧ Y111 d Q 68 lv (zfv σ c 0 :: st) σ := yX_at (.getfield 7, 3, 7, 0, 220, 0, []) rfl
theorem g111_68  : Y111 d Q 68 lv st σ ↔ Y111 d Q 70 lv (.int 43 :: st) σ := yX_at (.bipush 43, 2, 0, 0, 0, 0, []) rfl
theorem g111_70 {j : Int32} {c : Nat} : Y111 d Q 70 lv (.int j :: .ref c :: st) σ ↔ (zK c = 100 ∧ vp_in j (zLn c)) ∧ Y111 d Q 71 lv (.int (σ.1 c j.toNatClampNeg) :: st) σ := yX_at (.iaload, 1, 0, 0, 0, 0, []) rfl
theorem g111_71 {x y : Int32} : Y111 d Q 71 lv (.int y :: .int x :: st) σ ↔ Y111 d Q 72 lv (.int (x * y) :: st) σ := yX_at (.imul, 1, 0, 0, 0, 0, []) rfl
theorem g111_72 {x y : Int32} : Y111 d Q 72 lv (.int y :: .int x :: st) σ ↔ Y111 d Q 73 lv (.int (x + y) :: st) σ := yX_at (.iadd, 1, 0, 0, 0, 0, []) rfl
theorem g111_73 {x : Int32} : Y111 d Q 73 lv (.int x :: st) σ ↔ Y111 d Q 75 (zs1 5 (.int x) lv) st σ := yX_at (.istore 5, 2, 0, 0, 0, 0, []) rfl
theorem g111_75  : Y111 d Q 75 lv st σ ↔ zldR lv 0 (fun x => Y111 d Q 76 lv (.ref x :: st) σ) := yX_at (.aload_n 0, 1, 0, 0, 0, 0, []) rfl
theorem g111_76 {c : Nat} : Y111 d Q 76 lv (.ref c :: st) σ ↔ zK c = 7 ∧ Y111 d Q 79 lv (zfv σ c 0 :: st) σ := yX_at (.getfield 7, 3, 7, 0, 220, 0, []) rfl
theorem g111_79  : Y111 d Q 79 lv st σ ↔ zldI lv 5 (fun x => Y111 d Q 81 lv (.int x :: st) σ) := yX_at (.iload 5, 2, 0, 0, 0, 0, []) rfl
theorem g111_81  : Y111 d Q 81 lv st σ ↔ zldI lv 1 (fun x => Y111 d Q 82 lv (.int x :: st) σ) := yX_at (.iload_n 1, 1, 0, 0, 0, 0, []) rfl
theorem g111_82 {x j : Int32} {c : Nat} : Y111 d Q 82 lv (.int x :: .int j :: .ref c :: st) σ ↔ (zK c = 100 ∧ vp_in j (zLn c)) ∧ Y111 d Q 83 lv st (zwI σ c j.toNatClampNeg x) := yX_at (.iastore, 1, 0, 0, 0, 0, []) rfl
theorem g111_83  : Y111 d Q 83 lv st σ ↔ zldR lv 0 (fun x => Y111 d Q 84 lv (.ref x :: st) σ) := yX_at (.aload_n 0, 1, 0, 0, 0, 0, []) rfl
theorem g111_84 {c : Nat} : Y111 d Q 84 lv (.ref c :: st) σ ↔ zK c = 7 ∧ Y111 d Q 87 lv (zfv σ c 0 :: st) σ := yX_at (.getfield 7, 3, 7, 0, 220, 0, []) rfl
theorem g111_87  : Y111 d Q 87 lv st σ ↔ zldI lv 5 (fun x => Y111 d Q 89 lv (.int x :: st) σ) := yX_at (.iload 5, 2, 0, 0, 0, 0, []) rfl
theorem g111_89  : Y111 d Q 89 lv st σ ↔ Y111 d Q 90 lv (.int 1 :: st) σ := yX_at (.iconst 1, 1, 0, 0, 0, 0, []) rfl
theorem g111_90 {x y : Int32} : Y111 d Q 90 lv (.int y :: .int x :: st) σ ↔ Y111 d Q 91 lv (.int (x + y) :: st) σ := yX_at (.iadd, 1, 0, 0, 0, 0, []) rfl
theorem g111_91  : Y111 d Q 91 lv st σ ↔ zldI lv 2 (fun x => Y111 d Q 92 lv (.int x :: st) σ) := yX_at (.iload_n 2, 1, 0, 0, 0, 0, []) rfl
theorem g111_92 {x j : Int32} {c : Nat} : Y111 d Q 92 lv (.int x :: .int j :: .ref c :: st) σ ↔ (zK c = 100 ∧ vp_in j (zLn c)) ∧ Y111 d Q 93 lv st (zwI σ c j.toNatClampNeg x) := yX_at (.iastore, 1, 0, 0, 0, 0, []) rfl
theorem g111_93  : Y111 d Q 93 lv st σ ↔ zldR lv 0 (fun x => Y111 d Q 94 lv (.ref x :: st) σ) := yX_at (.aload_n 0, 1, 0, 0, 0, 0, []) rfl
theorem g111_94 {c : Nat} : Y111 d Q 94 lv (.ref c :: st) σ ↔ zK c = 7 ∧ Y111 d Q 97 lv (zfv σ c 0 :: st) σ := yX_at (.getfield 7, 3, 7, 0, 220, 0, []) rfl
theorem g111_97  : Y111 d Q 97 lv st σ ↔ zldI lv 5 (fun x => Y111 d Q 99 lv (.int x :: st) σ) := yX_at (.iload 5, 2, 0, 0, 0, 0, []) rfl
theorem g111_99  : Y111 d Q 99 lv st σ ↔ Y111 d Q 100 lv (.int 2 :: st) σ := yX_at (.iconst 2, 1, 0, 0, 0, 0, []) rfl
theorem g111_100 {x y : Int32} : Y111 d Q 100 lv (.int y :: .int x :: st) σ ↔ Y111 d Q 101 lv (.int (x + y) :: st) σ := yX_at (.iadd, 1, 0, 0, 0, 0, []) rfl
theorem g111_101  : Y111 d Q 101 lv st σ ↔ zldI lv 3 (fun x => Y111 d Q 102 lv (.int x :: st) σ) := yX_at (.iload_n 3, 1, 0, 0, 0, 0, []) rfl
theorem g111_102 {x j : Int32} {c : Nat} : Y111 d Q 102 lv (.int x :: .int j :: .ref c :: st) σ ↔ (zK c = 100 ∧ vp_in j (zLn c)) ∧ Y111 d Q 103 lv st (zwI σ c j.toNatClampNeg x) := yX_at (.iastore, 1, 0, 0, 0, 0, []) rfl
theorem g111_103  : Y111 d Q 103 lv st σ ↔ zldR lv 0 (fun x => Y111 d Q 104 lv (.ref x :: st) σ) := yX_at (.aload_n 0, 1, 0, 0, 0, 0, []) rfl
theorem g111_104 {c : Nat} : Y111 d Q 104 lv (.ref c :: st) σ ↔ zK c = 7 ∧ Y111 d Q 107 lv (zfv σ c 0 :: st) σ := yX_at (.getfield 7, 3, 7, 0, 220, 0, []) rfl
theorem g111_107  : Y111 d Q 107 lv st σ ↔ zldI lv 5 (fun x => Y111 d Q 109 lv (.int x :: st) σ) := yX_at (.iload 5, 2, 0, 0, 0, 0, []) rfl
theorem g111_109  : Y111 d Q 109 lv st σ ↔ Y111 d Q 110 lv (.int 3 :: st) σ := yX_at (.iconst 3, 1, 0, 0, 0, 0, []) rfl
theorem g111_110 {x y : Int32} : Y111 d Q 110 lv (.int y :: .int x :: st) σ ↔ Y111 d Q 111 lv (.int (x + y) :: st) σ := yX_at (.iadd, 1, 0, 0, 0, 0, []) rfl
theorem g111_111  : Y111 d Q 111 lv st σ ↔ zldI lv 4 (fun x => Y111 d Q 113 lv (.int x :: st) σ) := yX_at (.iload 4, 2, 0, 0, 0, 0, []) rfl
theorem g111_113 {x j : Int32} {c : Nat} : Y111 d Q 113 lv (.int x :: .int j :: .ref c :: st) σ ↔ (zK c = 100 ∧ vp_in j (zLn c)) ∧ Y111 d Q 114 lv st (zwI σ c j.toNatClampNeg x) := yX_at (.iastore, 1, 0, 0, 0, 0, []) rfl
theorem g111_114  : Y111 d Q 114 lv st σ ↔ zldR lv 0 (fun x => Y111 d Q 115 lv (.ref x :: st) σ) := yX_at (.aload_n 0, 1, 0, 0, 0, 0, []) rfl
theorem g111_115 {c : Nat} : Y111 d Q 115 lv (.ref c :: st) σ ↔ zK c = 7 ∧ Y111 d Q 118 lv (zfv σ c 0 :: st) σ := yX_at (.getfield 7, 3, 7, 0, 220, 0, []) rfl
theorem g111_118  : Y111 d Q 118 lv st σ ↔ Y111 d Q 120 lv (.int 43 :: st) σ := yX_at (.bipush 43, 2, 0, 0, 0, 0, []) rfl
theorem g111_120  : Y111 d Q 120 lv st σ ↔ zdup2 st (fun r => Y111 d Q 121 lv r σ) := yX_at (.dup2, 1, 0, 0, 0, 0, []) rfl
theorem g111_121 {j : Int32} {c : Nat} : Y111 d Q 121 lv (.int j :: .ref c :: st) σ ↔ (zK c = 100 ∧ vp_in j (zLn c)) ∧ Y111 d Q 122 lv (.int (σ.1 c j.toNatClampNeg) :: st) σ := yX_at (.iaload, 1, 0, 0, 0, 0, []) rfl
theorem g111_122  : Y111 d Q 122 lv st σ ↔ Y111 d Q 123 lv (.int 1 :: st) σ := yX_at (.iconst 1, 1, 0, 0, 0, 0, []) rfl
theorem g111_123 {x y : Int32} : Y111 d Q 123 lv (.int y :: .int x :: st) σ ↔ Y111 d Q 124 lv (.int (x + y) :: st) σ := yX_at (.iadd, 1, 0, 0, 0, 0, []) rfl
theorem g111_124 {x j : Int32} {c : Nat} : Y111 d Q 124 lv (.int x :: .int j :: .ref c :: st) σ ↔ (zK c = 100 ∧ vp_in j (zLn c)) ∧ Y111 d Q 125 lv st (zwI σ c j.toNatClampNeg x) := yX_at (.iastore, 1, 0, 0, 0, 0, []) rfl
theorem g111_125  : Y111 d Q 125 lv [] σ ↔ Q none σ := yX_at (.return_, 1, 0, 0, 0, 0, []) rfl
end G111
def Y112 (d : Nat) (Q : Option Value → zSt → Prop) (pc : Nat) (lv : zLv) (st : List Value) (σ : zSt) : Prop := yX (yE d) ySn zt112 Q pc lv st σ
theorem C112 {d : Nat} {as : List Value} {σ : zSt} {P : Option Value → zSt → Prop} (hl : (lg_sl as).length ≤ 3) (h : Y112 d P 0 (lv_args 0 as) [] σ) : yC (d + 1) 112 as σ P := yC_of (by decide) hl h
section G112
variable {d : Nat} {Q : Option Value → zSt → Prop} {lv : zLv} {st : List Value} {σ : zSt}
theorem g112_0  : Y112 d Q 0 lv st σ ↔ zldR lv 0 (fun x => Y112 d Q 1 lv (.ref x :: st) σ) := yX_at (.aload_n 0, 1, 0, 0, 0, 0, []) rfl
theorem g112_1  : Y112 d Q 1 lv st σ ↔ zldI lv 1 (fun x => Y112 d Q 2 lv (.int x :: st) σ) := yX_at (.iload_n 1, 1, 0, 0, 0, 0, []) rfl
theorem g112_2 {v0 : Value} {c : Nat} : Y112 d Q 2 lv (v0 :: .ref c :: st) σ ↔ (zrcv 7 c ∧ zrm st) ∧ ∃ rv σ', yE d 96 [.ref c, v0] σ rv σ' ∧ Y112 d Q 5 lv (rv.toList ++ st) σ' := yX_at (.invokevirtual 142, 3, 96, 1, 224, 0, []) rfl
theorem g112_5 {x : Int32} : Y112 d Q 5 lv (.int x :: st) σ ↔ (¬ x = 0 → Y112 d Q 10 lv st σ) ∧ (x = 0 → Y112 d Q 8 lv st σ) := yX_at (.ifCond .ne 5, 3, 10, 0, 0, 0, []) rfl
theorem g112_8  : Y112 d Q 8 lv st σ ↔ Y112 d Q 9 lv (.int (-1) :: st) σ := by
  rw [show (-1 : Int32) = Int32.ofInt (-1) from by decide]
  exact yX_at (.iconst (-1), 1, 0, 0, 0, 0, []) rfl
theorem g112_9 {x : Int32} : Y112 d Q 9 lv [.int x] σ ↔ Q (some (.int x)) σ := yX_at (.ireturn, 1, 0, 0, 0, 0, []) rfl
theorem g112_10  : Y112 d Q 10 lv st σ ↔ zldR lv 0 (fun x => Y112 d Q 11 lv (.ref x :: st) σ) := yX_at (.aload_n 0, 1, 0, 0, 0, 0, []) rfl
theorem g112_11 {c : Nat} : Y112 d Q 11 lv (.ref c :: st) σ ↔ zK c = 7 ∧ Y112 d Q 14 lv (zfv σ c 7 :: st) σ := yX_at (.getfield 26, 3, 7, 7, 217, 0, []) rfl
theorem g112_14  : Y112 d Q 14 lv st σ ↔ Y112 d Q 15 lv (.int 5 :: st) σ := yX_at (.iconst 5, 1, 0, 0, 0, 0, []) rfl
theorem g112_15  : Y112 d Q 15 lv st σ ↔ zldI lv 1 (fun x => Y112 d Q 16 lv (.int x :: st) σ) := yX_at (.iload_n 1, 1, 0, 0, 0, 0, []) rfl
theorem g112_16 {x y : Int32} : Y112 d Q 16 lv (.int y :: .int x :: st) σ ↔ Y112 d Q 17 lv (.int (x * y) :: st) σ := yX_at (.imul, 1, 0, 0, 0, 0, []) rfl
theorem g112_17 {j : Int32} {c : Nat} : Y112 d Q 17 lv (.int j :: .ref c :: st) σ ↔ (zK c = 100 ∧ vp_in j (zLn c)) ∧ Y112 d Q 18 lv (.int (σ.1 c j.toNatClampNeg) :: st) σ := yX_at (.iaload, 1, 0, 0, 0, 0, []) rfl
theorem g112_18 {x : Int32} : Y112 d Q 18 lv (.int x :: st) σ ↔ Y112 d Q 19 (zs1 2 (.int x) lv) st σ := yX_at (.istore_n 2, 1, 0, 0, 0, 0, []) rfl
theorem g112_19  : Y112 d Q 19 lv st σ ↔ zldR lv 0 (fun x => Y112 d Q 20 lv (.ref x :: st) σ) := yX_at (.aload_n 0, 1, 0, 0, 0, 0, []) rfl
theorem g112_20 {c : Nat} : Y112 d Q 20 lv (.ref c :: st) σ ↔ zK c = 7 ∧ Y112 d Q 23 lv (zfv σ c 0 :: st) σ := yX_at (.getfield 7, 3, 7, 0, 220, 0, []) rfl
theorem g112_23  : Y112 d Q 23 lv st σ ↔ Y112 d Q 24 lv (.int 3 :: st) σ := yX_at (.iconst 3, 1, 0, 0, 0, 0, []) rfl
theorem g112_24  : Y112 d Q 24 lv st σ ↔ zldI lv 1 (fun x => Y112 d Q 25 lv (.int x :: st) σ) := yX_at (.iload_n 1, 1, 0, 0, 0, 0, []) rfl
theorem g112_25 {x y : Int32} : Y112 d Q 25 lv (.int y :: .int x :: st) σ ↔ Y112 d Q 26 lv (.int (x + y) :: st) σ := yX_at (.iadd, 1, 0, 0, 0, 0, []) rfl
theorem g112_26 {j : Int32} {c : Nat} : Y112 d Q 26 lv (.int j :: .ref c :: st) σ ↔ (zK c = 100 ∧ vp_in j (zLn c)) ∧ Y112 d Q 27 lv (.int (σ.1 c j.toNatClampNeg) :: st) σ := yX_at (.iaload, 1, 0, 0, 0, 0, []) rfl
theorem g112_27 {x : Int32} : Y112 d Q 27 lv (.int x :: st) σ ↔ (¬ x = 0 → Y112 d Q 49 lv st σ) ∧ (x = 0 → Y112 d Q 30 lv st σ) := yX_at (.ifCond .ne 22, 3, 49, 0, 0, 0, []) rfl
theorem g112_30  : Y112 d Q 30 lv st σ ↔ zldR lv 0 (fun x => Y112 d Q 31 lv (.ref x :: st) σ) := yX_at (.aload_n 0, 1, 0, 0, 0, 0, []) rfl
theorem g112_31 {c : Nat} : Y112 d Q 31 lv (.ref c :: st) σ ↔ zK c = 7 ∧ Y112 d Q 34 lv (zfv σ c 7 :: st) σ := yX_at (.getfield 26, 3, 7, 7, 217, 0, []) rfl
theorem g112_34  : Y112 d Q 34 lv st σ ↔ Y112 d Q 35 lv (.int 5 :: st) σ := yX_at (.iconst 5, 1, 0, 0, 0, 0, []) rfl
theorem g112_35  : Y112 d Q 35 lv st σ ↔ zldI lv 1 (fun x => Y112 d Q 36 lv (.int x :: st) σ) := yX_at (.iload_n 1, 1, 0, 0, 0, 0, []) rfl
theorem g112_36 {x y : Int32} : Y112 d Q 36 lv (.int y :: .int x :: st) σ ↔ Y112 d Q 37 lv (.int (x * y) :: st) σ := yX_at (.imul, 1, 0, 0, 0, 0, []) rfl
theorem g112_37  : Y112 d Q 37 lv st σ ↔ Y112 d Q 38 lv (.int 1 :: st) σ := yX_at (.iconst 1, 1, 0, 0, 0, 0, []) rfl
theorem g112_38 {x y : Int32} : Y112 d Q 38 lv (.int y :: .int x :: st) σ ↔ Y112 d Q 39 lv (.int (x + y) :: st) σ := yX_at (.iadd, 1, 0, 0, 0, 0, []) rfl
theorem g112_39 {j : Int32} {c : Nat} : Y112 d Q 39 lv (.int j :: .ref c :: st) σ ↔ (zK c = 100 ∧ vp_in j (zLn c)) ∧ Y112 d Q 40 lv (.int (σ.1 c j.toNatClampNeg) :: st) σ := yX_at (.iaload, 1, 0, 0, 0, 0, []) rfl
theorem g112_40  : Y112 d Q 40 lv st σ ↔ zldR lv 0 (fun x => Y112 d Q 41 lv (.ref x :: st) σ) := yX_at (.aload_n 0, 1, 0, 0, 0, 0, []) rfl
theorem g112_41 {c : Nat} : Y112 d Q 41 lv (.ref c :: st) σ ↔ zK c = 7 ∧ Y112 d Q 44 lv (zfv σ c 0 :: st) σ := yX_at (.getfield 7, 3, 7, 0, 220, 0, []) rfl
theorem g112_44  : Y112 d Q 44 lv st σ ↔ Y112 d Q 45 lv (.int 0 :: st) σ := yX_at (.iconst 0, 1, 0, 0, 0, 0, []) rfl
theorem g112_45 {j : Int32} {c : Nat} : Y112 d Q 45 lv (.int j :: .ref c :: st) σ ↔ (zK c = 100 ∧ vp_in j (zLn c)) ∧ Y112 d Q 46 lv (.int (σ.1 c j.toNatClampNeg) :: st) σ := yX_at (.iaload, 1, 0, 0, 0, 0, []) rfl
theorem g112_46 {x y : Int32} : Y112 d Q 46 lv (.int y :: .int x :: st) σ ↔ (x = y → Y112 d Q 52 lv st σ) ∧ (¬ x = y → Y112 d Q 49 lv st σ) := yX_at (.if_icmp .eq 6, 3, 52, 0, 0, 0, []) rfl
theorem g112_49  : Y112 d Q 49 lv st σ ↔ Y112 d Q 51 lv (.int (-2) :: st) σ := by
  rw [show (-2 : Int32) = (Int8.ofInt (-2)).toInt32 from by decide]
  exact yX_at (.bipush (-2), 2, 0, 0, 0, 0, []) rfl
theorem g112_51 {x : Int32} : Y112 d Q 51 lv [.int x] σ ↔ Q (some (.int x)) σ := yX_at (.ireturn, 1, 0, 0, 0, 0, []) rfl
theorem g112_52  : Y112 d Q 52 lv st σ ↔ zldR lv 0 (fun x => Y112 d Q 53 lv (.ref x :: st) σ) := yX_at (.aload_n 0, 1, 0, 0, 0, 0, []) rfl
theorem g112_53 {c : Nat} : Y112 d Q 53 lv (.ref c :: st) σ ↔ zK c = 7 ∧ Y112 d Q 56 lv (zfv σ c 0 :: st) σ := yX_at (.getfield 7, 3, 7, 0, 220, 0, []) rfl
theorem g112_56  : Y112 d Q 56 lv st σ ↔ Y112 d Q 58 lv (.int 19 :: st) σ := yX_at (.bipush 19, 2, 0, 0, 0, 0, []) rfl
theorem g112_58  : Y112 d Q 58 lv st σ ↔ zldI lv 2 (fun x => Y112 d Q 59 lv (.int x :: st) σ) := yX_at (.iload_n 2, 1, 0, 0, 0, 0, []) rfl
theorem g112_59 {x y : Int32} : Y112 d Q 59 lv (.int y :: .int x :: st) σ ↔ Y112 d Q 60 lv (.int (x + y) :: st) σ := yX_at (.iadd, 1, 0, 0, 0, 0, []) rfl
theorem g112_60 {j : Int32} {c : Nat} : Y112 d Q 60 lv (.int j :: .ref c :: st) σ ↔ (zK c = 100 ∧ vp_in j (zLn c)) ∧ Y112 d Q 61 lv (.int (σ.1 c j.toNatClampNeg) :: st) σ := yX_at (.iaload, 1, 0, 0, 0, 0, []) rfl
theorem g112_61  : Y112 d Q 61 lv st σ ↔ zldR lv 0 (fun x => Y112 d Q 62 lv (.ref x :: st) σ) := yX_at (.aload_n 0, 1, 0, 0, 0, 0, []) rfl
theorem g112_62 {c : Nat} : Y112 d Q 62 lv (.ref c :: st) σ ↔ zK c = 7 ∧ Y112 d Q 65 lv (zfv σ c 3 :: st) σ := yX_at (.getfield 17, 3, 7, 3, 214, 0, []) rfl
theorem g112_65  : Y112 d Q 65 lv st σ ↔ zldI lv 2 (fun x => Y112 d Q 66 lv (.int x :: st) σ) := yX_at (.iload_n 2, 1, 0, 0, 0, 0, []) rfl
theorem g112_66 {j : Int32} {c : Nat} : Y112 d Q 66 lv (.int j :: .ref c :: st) σ ↔ (zK c = 100 ∧ vp_in j (zLn c)) ∧ Y112 d Q 67 lv (.int (σ.1 c j.toNatClampNeg) :: st) σ := yX_at (.iaload, 1, 0, 0, 0, 0, []) rfl
theorem g112_67 {x y : Int32} : Y112 d Q 67 lv (.int y :: .int x :: st) σ ↔ (¬ x = y → Y112 d Q 73 lv st σ) ∧ (x = y → Y112 d Q 70 lv st σ) := yX_at (.if_icmp .ne 6, 3, 73, 0, 0, 0, []) rfl
theorem g112_70  : Y112 d Q 70 lv st σ ↔ Y112 d Q 72 lv (.int (-3) :: st) σ := by
  rw [show (-3 : Int32) = (Int8.ofInt (-3)).toInt32 from by decide]
  exact yX_at (.bipush (-3), 2, 0, 0, 0, 0, []) rfl
theorem g112_72 {x : Int32} : Y112 d Q 72 lv [.int x] σ ↔ Q (some (.int x)) σ := yX_at (.ireturn, 1, 0, 0, 0, 0, []) rfl
theorem g112_73  : Y112 d Q 73 lv st σ ↔ zldR lv 0 (fun x => Y112 d Q 74 lv (.ref x :: st) σ) := yX_at (.aload_n 0, 1, 0, 0, 0, 0, []) rfl
theorem g112_74  : Y112 d Q 74 lv st σ ↔ zldI lv 2 (fun x => Y112 d Q 75 lv (.int x :: st) σ) := yX_at (.iload_n 2, 1, 0, 0, 0, 0, []) rfl
theorem g112_75  : Y112 d Q 75 lv st σ ↔ zldR lv 0 (fun x => Y112 d Q 76 lv (.ref x :: st) σ) := yX_at (.aload_n 0, 1, 0, 0, 0, 0, []) rfl
theorem g112_76 {c : Nat} : Y112 d Q 76 lv (.ref c :: st) σ ↔ zK c = 7 ∧ Y112 d Q 79 lv (zfv σ c 0 :: st) σ := yX_at (.getfield 7, 3, 7, 0, 220, 0, []) rfl
theorem g112_79  : Y112 d Q 79 lv st σ ↔ Y112 d Q 81 lv (.int 19 :: st) σ := yX_at (.bipush 19, 2, 0, 0, 0, 0, []) rfl
theorem g112_81  : Y112 d Q 81 lv st σ ↔ zldI lv 2 (fun x => Y112 d Q 82 lv (.int x :: st) σ) := yX_at (.iload_n 2, 1, 0, 0, 0, 0, []) rfl
theorem g112_82 {x y : Int32} : Y112 d Q 82 lv (.int y :: .int x :: st) σ ↔ Y112 d Q 83 lv (.int (x + y) :: st) σ := yX_at (.iadd, 1, 0, 0, 0, 0, []) rfl
theorem g112_83 {j : Int32} {c : Nat} : Y112 d Q 83 lv (.int j :: .ref c :: st) σ ↔ (zK c = 100 ∧ vp_in j (zLn c)) ∧ Y112 d Q 84 lv (.int (σ.1 c j.toNatClampNeg) :: st) σ := yX_at (.iaload, 1, 0, 0, 0, 0, []) rfl
theorem g112_84  : Y112 d Q 84 lv st σ ↔ zldI lv 1 (fun x => Y112 d Q 85 lv (.int x :: st) σ) := yX_at (.iload_n 1, 1, 0, 0, 0, 0, []) rfl
theorem g112_85 {v0 v1 v2 : Value} {c : Nat} : Y112 d Q 85 lv (v2 :: v1 :: v0 :: .ref c :: st) σ ↔ (zrcv 7 c ∧ zrm st) ∧ ∃ rv σ', yE d 108 [.ref c, v0, v1, v2] σ rv σ' ∧ Y112 d Q 88 lv (rv.toList ++ st) σ' := yX_at (.invokevirtual 154, 3, 108, 3, 228, 0, []) rfl
theorem g112_88  : Y112 d Q 88 lv st σ ↔ zldR lv 0 (fun x => Y112 d Q 89 lv (.ref x :: st) σ) := yX_at (.aload_n 0, 1, 0, 0, 0, 0, []) rfl
theorem g112_89 {c : Nat} : Y112 d Q 89 lv (.ref c :: st) σ ↔ zK c = 7 ∧ Y112 d Q 92 lv (zfv σ c 0 :: st) σ := yX_at (.getfield 7, 3, 7, 0, 220, 0, []) rfl
theorem g112_92  : Y112 d Q 92 lv st σ ↔ Y112 d Q 94 lv (.int 11 :: st) σ := yX_at (.bipush 11, 2, 0, 0, 0, 0, []) rfl
theorem g112_94  : Y112 d Q 94 lv st σ ↔ zldI lv 1 (fun x => Y112 d Q 95 lv (.int x :: st) σ) := yX_at (.iload_n 1, 1, 0, 0, 0, 0, []) rfl
theorem g112_95 {x y : Int32} : Y112 d Q 95 lv (.int y :: .int x :: st) σ ↔ Y112 d Q 96 lv (.int (x + y) :: st) σ := yX_at (.iadd, 1, 0, 0, 0, 0, []) rfl
theorem g112_96  : Y112 d Q 96 lv st σ ↔ zldR lv 0 (fun x => Y112 d Q 97 lv (.ref x :: st) σ) := yX_at (.aload_n 0, 1, 0, 0, 0, 0, []) rfl
theorem g112_97 {c : Nat} : Y112 d Q 97 lv (.ref c :: st) σ ↔ zK c = 7 ∧ Y112 d Q 100 lv (zfv σ c 7 :: st) σ := yX_at (.getfield 26, 3, 7, 7, 217, 0, []) rfl
theorem g112_100  : Y112 d Q 100 lv st σ ↔ Y112 d Q 101 lv (.int 5 :: st) σ := yX_at (.iconst 5, 1, 0, 0, 0, 0, []) rfl
theorem g112_101  : Y112 d Q 101 lv st σ ↔ zldI lv 1 (fun x => Y112 d Q 102 lv (.int x :: st) σ) := yX_at (.iload_n 1, 1, 0, 0, 0, 0, []) rfl
theorem g112_102 {x y : Int32} : Y112 d Q 102 lv (.int y :: .int x :: st) σ ↔ Y112 d Q 103 lv (.int (x * y) :: st) σ := yX_at (.imul, 1, 0, 0, 0, 0, []) rfl
theorem g112_103  : Y112 d Q 103 lv st σ ↔ Y112 d Q 104 lv (.int 2 :: st) σ := yX_at (.iconst 2, 1, 0, 0, 0, 0, []) rfl
theorem g112_104 {x y : Int32} : Y112 d Q 104 lv (.int y :: .int x :: st) σ ↔ Y112 d Q 105 lv (.int (x + y) :: st) σ := yX_at (.iadd, 1, 0, 0, 0, 0, []) rfl
theorem g112_105 {j : Int32} {c : Nat} : Y112 d Q 105 lv (.int j :: .ref c :: st) σ ↔ (zK c = 100 ∧ vp_in j (zLn c)) ∧ Y112 d Q 106 lv (.int (σ.1 c j.toNatClampNeg) :: st) σ := yX_at (.iaload, 1, 0, 0, 0, 0, []) rfl
theorem g112_106 {x j : Int32} {c : Nat} : Y112 d Q 106 lv (.int x :: .int j :: .ref c :: st) σ ↔ (zK c = 100 ∧ vp_in j (zLn c)) ∧ Y112 d Q 107 lv st (zwI σ c j.toNatClampNeg x) := yX_at (.iastore, 1, 0, 0, 0, 0, []) rfl
theorem g112_107  : Y112 d Q 107 lv st σ ↔ zldR lv 0 (fun x => Y112 d Q 108 lv (.ref x :: st) σ) := yX_at (.aload_n 0, 1, 0, 0, 0, 0, []) rfl
theorem g112_108  : Y112 d Q 108 lv st σ ↔ Y112 d Q 109 lv (.int 0 :: st) σ := yX_at (.iconst 0, 1, 0, 0, 0, 0, []) rfl
theorem g112_109  : Y112 d Q 109 lv st σ ↔ zldI lv 1 (fun x => Y112 d Q 110 lv (.int x :: st) σ) := yX_at (.iload_n 1, 1, 0, 0, 0, 0, []) rfl
theorem g112_110  : Y112 d Q 110 lv st σ ↔ zldI lv 2 (fun x => Y112 d Q 111 lv (.int x :: st) σ) := yX_at (.iload_n 2, 1, 0, 0, 0, 0, []) rfl
theorem g112_111  : Y112 d Q 111 lv st σ ↔ Y112 d Q 112 lv (.int 0 :: st) σ := yX_at (.iconst 0, 1, 0, 0, 0, 0, []) rfl
theorem g112_112 {v0 v1 v2 v3 : Value} {c : Nat} : Y112 d Q 112 lv (v3 :: v2 :: v1 :: v0 :: .ref c :: st) σ ↔ (zrcv 7 c ∧ zrm st) ∧ ∃ rv σ', yE d 111 [.ref c, v0, v1, v2, v3] σ rv σ' ∧ Y112 d Q 115 lv (rv.toList ++ st) σ' := yX_at (.invokevirtual 158, 3, 111, 4, 229, 0, []) rfl
theorem g112_115  : Y112 d Q 115 lv st σ ↔ zldR lv 0 (fun x => Y112 d Q 116 lv (.ref x :: st) σ) := yX_at (.aload_n 0, 1, 0, 0, 0, 0, []) rfl
theorem g112_116 {c : Nat} : Y112 d Q 116 lv (.ref c :: st) σ ↔ zK c = 7 ∧ Y112 d Q 119 lv (zfv σ c 0 :: st) σ := yX_at (.getfield 7, 3, 7, 0, 220, 0, []) rfl
theorem g112_119  : Y112 d Q 119 lv st σ ↔ Y112 d Q 121 lv (.int 19 :: st) σ := yX_at (.bipush 19, 2, 0, 0, 0, 0, []) rfl
theorem g112_121  : Y112 d Q 121 lv st σ ↔ zldI lv 2 (fun x => Y112 d Q 122 lv (.int x :: st) σ) := yX_at (.iload_n 2, 1, 0, 0, 0, 0, []) rfl
theorem g112_122 {x y : Int32} : Y112 d Q 122 lv (.int y :: .int x :: st) σ ↔ Y112 d Q 123 lv (.int (x + y) :: st) σ := yX_at (.iadd, 1, 0, 0, 0, 0, []) rfl
theorem g112_123 {j : Int32} {c : Nat} : Y112 d Q 123 lv (.int j :: .ref c :: st) σ ↔ (zK c = 100 ∧ vp_in j (zLn c)) ∧ Y112 d Q 124 lv (.int (σ.1 c j.toNatClampNeg) :: st) σ := yX_at (.iaload, 1, 0, 0, 0, 0, []) rfl
theorem g112_124 {x : Int32} : Y112 d Q 124 lv [.int x] σ ↔ Q (some (.int x)) σ := yX_at (.ireturn, 1, 0, 0, 0, 0, []) rfl
end G112
def Y113 (d : Nat) (Q : Option Value → zSt → Prop) (pc : Nat) (lv : zLv) (st : List Value) (σ : zSt) : Prop := yX (yE d) ySn zt113 Q pc lv st σ
theorem C113 {d : Nat} {as : List Value} {σ : zSt} {P : Option Value → zSt → Prop} (hl : (lg_sl as).length ≤ 3) (h : Y113 d P 0 (lv_args 0 as) [] σ) : yC (d + 1) 113 as σ P := yC_of (by decide) hl h
section G113
variable {d : Nat} {Q : Option Value → zSt → Prop} {lv : zLv} {st : List Value} {σ : zSt}
theorem g113_0  : Y113 d Q 0 lv st σ ↔ zldR lv 0 (fun x => Y113 d Q 1 lv (.ref x :: st) σ) := yX_at (.aload_n 0, 1, 0, 0, 0, 0, []) rfl
theorem g113_1  : Y113 d Q 1 lv st σ ↔ zldI lv 1 (fun x => Y113 d Q 2 lv (.int x :: st) σ) := yX_at (.iload_n 1, 1, 0, 0, 0, 0, []) rfl
theorem g113_2 {v0 : Value} {c : Nat} : Y113 d Q 2 lv (v0 :: .ref c :: st) σ ↔ (zrcv 7 c ∧ zrm st) ∧ ∃ rv σ', yE d 96 [.ref c, v0] σ rv σ' ∧ Y113 d Q 5 lv (rv.toList ++ st) σ' := yX_at (.invokevirtual 142, 3, 96, 1, 224, 0, []) rfl
theorem g113_5 {x : Int32} : Y113 d Q 5 lv (.int x :: st) σ ↔ (¬ x = 0 → Y113 d Q 10 lv st σ) ∧ (x = 0 → Y113 d Q 8 lv st σ) := yX_at (.ifCond .ne 5, 3, 10, 0, 0, 0, []) rfl
theorem g113_8  : Y113 d Q 8 lv st σ ↔ Y113 d Q 9 lv (.int (-1) :: st) σ := by
  rw [show (-1 : Int32) = Int32.ofInt (-1) from by decide]
  exact yX_at (.iconst (-1), 1, 0, 0, 0, 0, []) rfl
theorem g113_9 {x : Int32} : Y113 d Q 9 lv [.int x] σ ↔ Q (some (.int x)) σ := yX_at (.ireturn, 1, 0, 0, 0, 0, []) rfl
theorem g113_10  : Y113 d Q 10 lv st σ ↔ zldR lv 0 (fun x => Y113 d Q 11 lv (.ref x :: st) σ) := yX_at (.aload_n 0, 1, 0, 0, 0, 0, []) rfl
theorem g113_11 {c : Nat} : Y113 d Q 11 lv (.ref c :: st) σ ↔ zK c = 7 ∧ Y113 d Q 14 lv (zfv σ c 0 :: st) σ := yX_at (.getfield 7, 3, 7, 0, 220, 0, []) rfl
theorem g113_14  : Y113 d Q 14 lv st σ ↔ Y113 d Q 15 lv (.int 3 :: st) σ := yX_at (.iconst 3, 1, 0, 0, 0, 0, []) rfl
theorem g113_15  : Y113 d Q 15 lv st σ ↔ zldI lv 1 (fun x => Y113 d Q 16 lv (.int x :: st) σ) := yX_at (.iload_n 1, 1, 0, 0, 0, 0, []) rfl
theorem g113_16 {x y : Int32} : Y113 d Q 16 lv (.int y :: .int x :: st) σ ↔ Y113 d Q 17 lv (.int (x + y) :: st) σ := yX_at (.iadd, 1, 0, 0, 0, 0, []) rfl
theorem g113_17 {j : Int32} {c : Nat} : Y113 d Q 17 lv (.int j :: .ref c :: st) σ ↔ (zK c = 100 ∧ vp_in j (zLn c)) ∧ Y113 d Q 18 lv (.int (σ.1 c j.toNatClampNeg) :: st) σ := yX_at (.iaload, 1, 0, 0, 0, 0, []) rfl
theorem g113_18  : Y113 d Q 18 lv st σ ↔ Y113 d Q 19 lv (.int 1 :: st) σ := yX_at (.iconst 1, 1, 0, 0, 0, 0, []) rfl
theorem g113_19 {x y : Int32} : Y113 d Q 19 lv (.int y :: .int x :: st) σ ↔ (x = y → Y113 d Q 25 lv st σ) ∧ (¬ x = y → Y113 d Q 22 lv st σ) := yX_at (.if_icmp .eq 6, 3, 25, 0, 0, 0, []) rfl
theorem g113_22  : Y113 d Q 22 lv st σ ↔ Y113 d Q 24 lv (.int (-2) :: st) σ := by
  rw [show (-2 : Int32) = (Int8.ofInt (-2)).toInt32 from by decide]
  exact yX_at (.bipush (-2), 2, 0, 0, 0, 0, []) rfl
theorem g113_24 {x : Int32} : Y113 d Q 24 lv [.int x] σ ↔ Q (some (.int x)) σ := yX_at (.ireturn, 1, 0, 0, 0, 0, []) rfl
theorem g113_25  : Y113 d Q 25 lv st σ ↔ zldR lv 0 (fun x => Y113 d Q 26 lv (.ref x :: st) σ) := yX_at (.aload_n 0, 1, 0, 0, 0, 0, []) rfl
theorem g113_26  : Y113 d Q 26 lv st σ ↔ zldI lv 1 (fun x => Y113 d Q 27 lv (.int x :: st) σ) := yX_at (.iload_n 1, 1, 0, 0, 0, 0, []) rfl
theorem g113_27 {v0 : Value} {c : Nat} : Y113 d Q 27 lv (v0 :: .ref c :: st) σ ↔ (zrcv 7 c ∧ zrm st) ∧ ∃ rv σ', yE d 105 [.ref c, v0] σ rv σ' ∧ Y113 d Q 30 lv (rv.toList ++ st) σ' := yX_at (.invokevirtual 147, 3, 105, 1, 226, 0, []) rfl
theorem g113_30 {x : Int32} : Y113 d Q 30 lv (.int x :: st) σ ↔ Y113 d Q 31 (zs1 2 (.int x) lv) st σ := yX_at (.istore_n 2, 1, 0, 0, 0, 0, []) rfl
theorem g113_31  : Y113 d Q 31 lv st σ ↔ zldR lv 0 (fun x => Y113 d Q 32 lv (.ref x :: st) σ) := yX_at (.aload_n 0, 1, 0, 0, 0, 0, []) rfl
theorem g113_32  : Y113 d Q 32 lv st σ ↔ Y113 d Q 33 lv (.int 1 :: st) σ := yX_at (.iconst 1, 1, 0, 0, 0, 0, []) rfl
theorem g113_33  : Y113 d Q 33 lv st σ ↔ zldI lv 1 (fun x => Y113 d Q 34 lv (.int x :: st) σ) := yX_at (.iload_n 1, 1, 0, 0, 0, 0, []) rfl
theorem g113_34  : Y113 d Q 34 lv st σ ↔ zldI lv 2 (fun x => Y113 d Q 35 lv (.int x :: st) σ) := yX_at (.iload_n 2, 1, 0, 0, 0, 0, []) rfl
theorem g113_35  : Y113 d Q 35 lv st σ ↔ zldR lv 0 (fun x => Y113 d Q 36 lv (.ref x :: st) σ) := yX_at (.aload_n 0, 1, 0, 0, 0, 0, []) rfl
theorem g113_36  : Y113 d Q 36 lv st σ ↔ zldI lv 2 (fun x => Y113 d Q 37 lv (.int x :: st) σ) := yX_at (.iload_n 2, 1, 0, 0, 0, 0, []) rfl
theorem g113_37  : Y113 d Q 37 lv st σ ↔ zldI lv 1 (fun x => Y113 d Q 38 lv (.int x :: st) σ) := yX_at (.iload_n 1, 1, 0, 0, 0, 0, []) rfl
theorem g113_38 {v0 v1 : Value} {c : Nat} : Y113 d Q 38 lv (v1 :: v0 :: .ref c :: st) σ ↔ (zrcv 7 c ∧ zrm st) ∧ ∃ rv σ', yE d 109 [.ref c, v0, v1] σ rv σ' ∧ Y113 d Q 41 lv (rv.toList ++ st) σ' := yX_at (.invokevirtual 151, 3, 109, 2, 227, 0, []) rfl
theorem g113_41 {v0 v1 v2 v3 : Value} {c : Nat} : Y113 d Q 41 lv (v3 :: v2 :: v1 :: v0 :: .ref c :: st) σ ↔ (zrcv 7 c ∧ zrm st) ∧ ∃ rv σ', yE d 111 [.ref c, v0, v1, v2, v3] σ rv σ' ∧ Y113 d Q 44 lv (rv.toList ++ st) σ' := yX_at (.invokevirtual 158, 3, 111, 4, 229, 0, []) rfl
theorem g113_44  : Y113 d Q 44 lv st σ ↔ zldR lv 0 (fun x => Y113 d Q 45 lv (.ref x :: st) σ) := yX_at (.aload_n 0, 1, 0, 0, 0, 0, []) rfl
theorem g113_45  : Y113 d Q 45 lv st σ ↔ zldI lv 2 (fun x => Y113 d Q 46 lv (.int x :: st) σ) := yX_at (.iload_n 2, 1, 0, 0, 0, 0, []) rfl
theorem g113_46  : Y113 d Q 46 lv st σ ↔ zldI lv 1 (fun x => Y113 d Q 47 lv (.int x :: st) σ) := yX_at (.iload_n 1, 1, 0, 0, 0, 0, []) rfl
theorem g113_47 {v0 v1 : Value} {c : Nat} : Y113 d Q 47 lv (v1 :: v0 :: .ref c :: st) σ ↔ (zrcv 7 c ∧ zrm st) ∧ ∃ rv σ', yE d 110 [.ref c, v0, v1] σ rv σ' ∧ Y113 d Q 50 lv (rv.toList ++ st) σ' := yX_at (.invokevirtual 162, 3, 110, 2, 230, 0, []) rfl
theorem g113_50  : Y113 d Q 50 lv st σ ↔ zldR lv 0 (fun x => Y113 d Q 51 lv (.ref x :: st) σ) := yX_at (.aload_n 0, 1, 0, 0, 0, 0, []) rfl
theorem g113_51 {c : Nat} : Y113 d Q 51 lv (.ref c :: st) σ ↔ zK c = 7 ∧ Y113 d Q 54 lv (zfv σ c 0 :: st) σ := yX_at (.getfield 7, 3, 7, 0, 220, 0, []) rfl
theorem g113_54  : Y113 d Q 54 lv st σ ↔ Y113 d Q 55 lv (.int 3 :: st) σ := yX_at (.iconst 3, 1, 0, 0, 0, 0, []) rfl
theorem g113_55  : Y113 d Q 55 lv st σ ↔ zldI lv 1 (fun x => Y113 d Q 56 lv (.int x :: st) σ) := yX_at (.iload_n 1, 1, 0, 0, 0, 0, []) rfl
theorem g113_56 {x y : Int32} : Y113 d Q 56 lv (.int y :: .int x :: st) σ ↔ Y113 d Q 57 lv (.int (x + y) :: st) σ := yX_at (.iadd, 1, 0, 0, 0, 0, []) rfl
theorem g113_57  : Y113 d Q 57 lv st σ ↔ Y113 d Q 58 lv (.int 3 :: st) σ := yX_at (.iconst 3, 1, 0, 0, 0, 0, []) rfl
theorem g113_58 {x j : Int32} {c : Nat} : Y113 d Q 58 lv (.int x :: .int j :: .ref c :: st) σ ↔ (zK c = 100 ∧ vp_in j (zLn c)) ∧ Y113 d Q 59 lv st (zwI σ c j.toNatClampNeg x) := yX_at (.iastore, 1, 0, 0, 0, 0, []) rfl
theorem g113_59  : Y113 d Q 59 lv st σ ↔ zldR lv 0 (fun x => Y113 d Q 60 lv (.ref x :: st) σ) := yX_at (.aload_n 0, 1, 0, 0, 0, 0, []) rfl
theorem g113_60 {c : Nat} : Y113 d Q 60 lv (.ref c :: st) σ ↔ zK c = 7 ∧ Y113 d Q 63 lv (zfv σ c 0 :: st) σ := yX_at (.getfield 7, 3, 7, 0, 220, 0, []) rfl
theorem g113_63  : Y113 d Q 63 lv st σ ↔ Y113 d Q 65 lv (.int 11 :: st) σ := yX_at (.bipush 11, 2, 0, 0, 0, 0, []) rfl
theorem g113_65  : Y113 d Q 65 lv st σ ↔ zldI lv 1 (fun x => Y113 d Q 66 lv (.int x :: st) σ) := yX_at (.iload_n 1, 1, 0, 0, 0, 0, []) rfl
theorem g113_66 {x y : Int32} : Y113 d Q 66 lv (.int y :: .int x :: st) σ ↔ Y113 d Q 67 lv (.int (x + y) :: st) σ := yX_at (.iadd, 1, 0, 0, 0, 0, []) rfl
theorem g113_67 {j : Int32} {c : Nat} : Y113 d Q 67 lv (.int j :: .ref c :: st) σ ↔ (zK c = 100 ∧ vp_in j (zLn c)) ∧ Y113 d Q 68 lv (.int (σ.1 c j.toNatClampNeg) :: st) σ := yX_at (.iaload, 1, 0, 0, 0, 0, []) rfl
theorem g113_68 {x : Int32} : Y113 d Q 68 lv [.int x] σ ↔ Q (some (.int x)) σ := yX_at (.ireturn, 1, 0, 0, 0, 0, []) rfl
end G113
