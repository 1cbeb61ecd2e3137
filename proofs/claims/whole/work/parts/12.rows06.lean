def Y114 (d : Nat) (Q : Option Value → zSt → Prop) (pc : Nat) (lv : zLv) (st : List Value) (σ : zSt) : Prop := yX (yE d) ySn zt114 Q pc lv st σ
theorem C114 {d : Nat} {as : List Value} {σ : zSt} {P : Option Value → zSt → Prop} (hl : (lg_sl as).length ≤ 3) (h : Y114 d P 0 (lv_args 0 as) [] σ) : yC (d + 1) 114 as σ P := yC_of (by decide) hl h
section G114
variable {d : Nat} {Q : Option Value → zSt → Prop} {lv : zLv} {st : List Value} {σ : zSt}
theorem g114_0  : Y114 d Q 0 lv st σ ↔ zldR lv 0 (fun x => Y114 d Q 1 lv (.ref x :: st) σ) := yX_at (.aload_n 0, 1, 0, 0, 0, 0, []) rfl
theorem g114_1  : Y114 d Q 1 lv st σ ↔ zldI lv 1 (fun x => Y114 d Q 2 lv (.int x :: st) σ) := yX_at (.iload_n 1, 1, 0, 0, 0, 0, []) rfl
theorem g114_2 {v0 : Value} {c : Nat} : Y114 d Q 2 lv (v0 :: .ref c :: st) σ ↔ (zrcv 7 c ∧ zrm st) ∧ ∃ rv σ', yE d 96 [.ref c, v0] σ rv σ' ∧ Y114 d Q 5 lv (rv.toList ++ st) σ' := yX_at (.invokevirtual 142, 3, 96, 1, 224, 0, []) rfl
theorem g114_5 {x : Int32} : Y114 d Q 5 lv (.int x :: st) σ ↔ (¬ x = 0 → Y114 d Q 10 lv st σ) ∧ (x = 0 → Y114 d Q 8 lv st σ) := yX_at (.ifCond .ne 5, 3, 10, 0, 0, 0, []) rfl
theorem g114_8  : Y114 d Q 8 lv st σ ↔ Y114 d Q 9 lv (.int (-1) :: st) σ := by
  rw [show (-1 : Int32) = Int32.ofInt (-1) from by decide]
  exact yX_at (.iconst (-1), 1, 0, 0, 0, 0, []) rfl
theorem g114_9 {x : Int32} : Y114 d Q 9 lv [.int x] σ ↔ Q (some (.int x)) σ := yX_at (.ireturn, 1, 0, 0, 0, 0, []) rfl
theorem g114_10  : Y114 d Q 10 lv st σ ↔ zldR lv 0 (fun x => Y114 d Q 11 lv (.ref x :: st) σ) := yX_at (.aload_n 0, 1, 0, 0, 0, 0, []) rfl
theorem g114_11 {c : Nat} : Y114 d Q 11 lv (.ref c :: st) σ ↔ zK c = 7 ∧ Y114 d Q 14 lv (zfv σ c 0 :: st) σ := yX_at (.getfield 7, 3, 7, 0, 220, 0, []) rfl
theorem g114_14  : Y114 d Q 14 lv st σ ↔ Y114 d Q 15 lv (.int 3 :: st) σ := yX_at (.iconst 3, 1, 0, 0, 0, 0, []) rfl
theorem g114_15  : Y114 d Q 15 lv st σ ↔ zldI lv 1 (fun x => Y114 d Q 16 lv (.int x :: st) σ) := yX_at (.iload_n 1, 1, 0, 0, 0, 0, []) rfl
theorem g114_16 {x y : Int32} : Y114 d Q 16 lv (.int y :: .int x :: st) σ ↔ Y114 d Q 17 lv (.int (x + y) :: st) σ := yX_at (.iadd, 1, 0, 0, 0, 0, []) rfl
theorem g114_17 {j : Int32} {c : Nat} : Y114 d Q 17 lv (.int j :: .ref c :: st) σ ↔ (zK c = 100 ∧ vp_in j (zLn c)) ∧ Y114 d Q 18 lv (.int (σ.1 c j.toNatClampNeg) :: st) σ := yX_at (.iaload, 1, 0, 0, 0, 0, []) rfl
theorem g114_18  : Y114 d Q 18 lv st σ ↔ Y114 d Q 19 lv (.int 1 :: st) σ := yX_at (.iconst 1, 1, 0, 0, 0, 0, []) rfl
theorem g114_19 {x y : Int32} : Y114 d Q 19 lv (.int y :: .int x :: st) σ ↔ (x = y → Y114 d Q 25 lv st σ) ∧ (¬ x = y → Y114 d Q 22 lv st σ) := yX_at (.if_icmp .eq 6, 3, 25, 0, 0, 0, []) rfl
theorem g114_22  : Y114 d Q 22 lv st σ ↔ Y114 d Q 24 lv (.int (-2) :: st) σ := by
  rw [show (-2 : Int32) = (Int8.ofInt (-2)).toInt32 from by decide]
  exact yX_at (.bipush (-2), 2, 0, 0, 0, 0, []) rfl
theorem g114_24 {x : Int32} : Y114 d Q 24 lv [.int x] σ ↔ Q (some (.int x)) σ := yX_at (.ireturn, 1, 0, 0, 0, 0, []) rfl
theorem g114_25  : Y114 d Q 25 lv st σ ↔ zldR lv 0 (fun x => Y114 d Q 26 lv (.ref x :: st) σ) := yX_at (.aload_n 0, 1, 0, 0, 0, 0, []) rfl
theorem g114_26  : Y114 d Q 26 lv st σ ↔ zldI lv 1 (fun x => Y114 d Q 27 lv (.int x :: st) σ) := yX_at (.iload_n 1, 1, 0, 0, 0, 0, []) rfl
theorem g114_27 {v0 : Value} {c : Nat} : Y114 d Q 27 lv (v0 :: .ref c :: st) σ ↔ (zrcv 7 c ∧ zrm st) ∧ ∃ rv σ', yE d 105 [.ref c, v0] σ rv σ' ∧ Y114 d Q 30 lv (rv.toList ++ st) σ' := yX_at (.invokevirtual 147, 3, 105, 1, 226, 0, []) rfl
theorem g114_30 {x : Int32} : Y114 d Q 30 lv (.int x :: st) σ ↔ Y114 d Q 31 (zs1 2 (.int x) lv) st σ := yX_at (.istore_n 2, 1, 0, 0, 0, 0, []) rfl
theorem g114_31  : Y114 d Q 31 lv st σ ↔ zldR lv 0 (fun x => Y114 d Q 32 lv (.ref x :: st) σ) := yX_at (.aload_n 0, 1, 0, 0, 0, 0, []) rfl
theorem g114_32  : Y114 d Q 32 lv st σ ↔ Y114 d Q 33 lv (.int 2 :: st) σ := yX_at (.iconst 2, 1, 0, 0, 0, 0, []) rfl
theorem g114_33  : Y114 d Q 33 lv st σ ↔ zldI lv 1 (fun x => Y114 d Q 34 lv (.int x :: st) σ) := yX_at (.iload_n 1, 1, 0, 0, 0, 0, []) rfl
theorem g114_34  : Y114 d Q 34 lv st σ ↔ zldI lv 2 (fun x => Y114 d Q 35 lv (.int x :: st) σ) := yX_at (.iload_n 2, 1, 0, 0, 0, 0, []) rfl
theorem g114_35  : Y114 d Q 35 lv st σ ↔ zldR lv 0 (fun x => Y114 d Q 36 lv (.ref x :: st) σ) := yX_at (.aload_n 0, 1, 0, 0, 0, 0, []) rfl
theorem g114_36  : Y114 d Q 36 lv st σ ↔ zldI lv 2 (fun x => Y114 d Q 37 lv (.int x :: st) σ) := yX_at (.iload_n 2, 1, 0, 0, 0, 0, []) rfl
theorem g114_37  : Y114 d Q 37 lv st σ ↔ zldI lv 1 (fun x => Y114 d Q 38 lv (.int x :: st) σ) := yX_at (.iload_n 1, 1, 0, 0, 0, 0, []) rfl
theorem g114_38 {v0 v1 : Value} {c : Nat} : Y114 d Q 38 lv (v1 :: v0 :: .ref c :: st) σ ↔ (zrcv 7 c ∧ zrm st) ∧ ∃ rv σ', yE d 109 [.ref c, v0, v1] σ rv σ' ∧ Y114 d Q 41 lv (rv.toList ++ st) σ' := yX_at (.invokevirtual 151, 3, 109, 2, 227, 0, []) rfl
theorem g114_41 {v0 v1 v2 v3 : Value} {c : Nat} : Y114 d Q 41 lv (v3 :: v2 :: v1 :: v0 :: .ref c :: st) σ ↔ (zrcv 7 c ∧ zrm st) ∧ ∃ rv σ', yE d 111 [.ref c, v0, v1, v2, v3] σ rv σ' ∧ Y114 d Q 44 lv (rv.toList ++ st) σ' := yX_at (.invokevirtual 158, 3, 111, 4, 229, 0, []) rfl
theorem g114_44  : Y114 d Q 44 lv st σ ↔ zldR lv 0 (fun x => Y114 d Q 45 lv (.ref x :: st) σ) := yX_at (.aload_n 0, 1, 0, 0, 0, 0, []) rfl
theorem g114_45  : Y114 d Q 45 lv st σ ↔ zldI lv 2 (fun x => Y114 d Q 46 lv (.int x :: st) σ) := yX_at (.iload_n 2, 1, 0, 0, 0, 0, []) rfl
theorem g114_46  : Y114 d Q 46 lv st σ ↔ zldI lv 1 (fun x => Y114 d Q 47 lv (.int x :: st) σ) := yX_at (.iload_n 1, 1, 0, 0, 0, 0, []) rfl
theorem g114_47 {v0 v1 : Value} {c : Nat} : Y114 d Q 47 lv (v1 :: v0 :: .ref c :: st) σ ↔ (zrcv 7 c ∧ zrm st) ∧ ∃ rv σ', yE d 110 [.ref c, v0, v1] σ rv σ' ∧ Y114 d Q 50 lv (rv.toList ++ st) σ' := yX_at (.invokevirtual 162, 3, 110, 2, 230, 0, []) rfl
theorem g114_50  : Y114 d Q 50 lv st σ ↔ zldR lv 0 (fun x => Y114 d Q 51 lv (.ref x :: st) σ) := yX_at (.aload_n 0, 1, 0, 0, 0, 0, []) rfl
theorem g114_51 {c : Nat} : Y114 d Q 51 lv (.ref c :: st) σ ↔ zK c = 7 ∧ Y114 d Q 54 lv (zfv σ c 0 :: st) σ := yX_at (.getfield 7, 3, 7, 0, 220, 0, []) rfl
theorem g114_54  : Y114 d Q 54 lv st σ ↔ Y114 d Q 55 lv (.int 3 :: st) σ := yX_at (.iconst 3, 1, 0, 0, 0, 0, []) rfl
theorem g114_55  : Y114 d Q 55 lv st σ ↔ zldI lv 1 (fun x => Y114 d Q 56 lv (.int x :: st) σ) := yX_at (.iload_n 1, 1, 0, 0, 0, 0, []) rfl
theorem g114_56 {x y : Int32} : Y114 d Q 56 lv (.int y :: .int x :: st) σ ↔ Y114 d Q 57 lv (.int (x + y) :: st) σ := yX_at (.iadd, 1, 0, 0, 0, 0, []) rfl
theorem g114_57  : Y114 d Q 57 lv st σ ↔ Y114 d Q 58 lv (.int 3 :: st) σ := yX_at (.iconst 3, 1, 0, 0, 0, 0, []) rfl
theorem g114_58 {x j : Int32} {c : Nat} : Y114 d Q 58 lv (.int x :: .int j :: .ref c :: st) σ ↔ (zK c = 100 ∧ vp_in j (zLn c)) ∧ Y114 d Q 59 lv st (zwI σ c j.toNatClampNeg x) := yX_at (.iastore, 1, 0, 0, 0, 0, []) rfl
theorem g114_59  : Y114 d Q 59 lv st σ ↔ zldR lv 0 (fun x => Y114 d Q 60 lv (.ref x :: st) σ) := yX_at (.aload_n 0, 1, 0, 0, 0, 0, []) rfl
theorem g114_60 {c : Nat} : Y114 d Q 60 lv (.ref c :: st) σ ↔ zK c = 7 ∧ Y114 d Q 63 lv (zfv σ c 0 :: st) σ := yX_at (.getfield 7, 3, 7, 0, 220, 0, []) rfl
theorem g114_63  : Y114 d Q 63 lv st σ ↔ Y114 d Q 64 lv (.int 2 :: st) σ := yX_at (.iconst 2, 1, 0, 0, 0, 0, []) rfl
theorem g114_64  : Y114 d Q 64 lv st σ ↔ zdup2 st (fun r => Y114 d Q 65 lv r σ) := yX_at (.dup2, 1, 0, 0, 0, 0, []) rfl
theorem g114_65 {j : Int32} {c : Nat} : Y114 d Q 65 lv (.int j :: .ref c :: st) σ ↔ (zK c = 100 ∧ vp_in j (zLn c)) ∧ Y114 d Q 66 lv (.int (σ.1 c j.toNatClampNeg) :: st) σ := yX_at (.iaload, 1, 0, 0, 0, 0, []) rfl
theorem g114_66  : Y114 d Q 66 lv st σ ↔ zldR lv 0 (fun x => Y114 d Q 67 lv (.ref x :: st) σ) := yX_at (.aload_n 0, 1, 0, 0, 0, 0, []) rfl
theorem g114_67 {c : Nat} : Y114 d Q 67 lv (.ref c :: st) σ ↔ zK c = 7 ∧ Y114 d Q 70 lv (zfv σ c 7 :: st) σ := yX_at (.getfield 26, 3, 7, 7, 217, 0, []) rfl
theorem g114_70  : Y114 d Q 70 lv st σ ↔ Y114 d Q 71 lv (.int 5 :: st) σ := yX_at (.iconst 5, 1, 0, 0, 0, 0, []) rfl
theorem g114_71  : Y114 d Q 71 lv st σ ↔ zldI lv 1 (fun x => Y114 d Q 72 lv (.int x :: st) σ) := yX_at (.iload_n 1, 1, 0, 0, 0, 0, []) rfl
theorem g114_72 {x y : Int32} : Y114 d Q 72 lv (.int y :: .int x :: st) σ ↔ Y114 d Q 73 lv (.int (x * y) :: st) σ := yX_at (.imul, 1, 0, 0, 0, 0, []) rfl
theorem g114_73  : Y114 d Q 73 lv st σ ↔ Y114 d Q 74 lv (.int 3 :: st) σ := yX_at (.iconst 3, 1, 0, 0, 0, 0, []) rfl
theorem g114_74 {x y : Int32} : Y114 d Q 74 lv (.int y :: .int x :: st) σ ↔ Y114 d Q 75 lv (.int (x + y) :: st) σ := yX_at (.iadd, 1, 0, 0, 0, 0, []) rfl
theorem g114_75 {j : Int32} {c : Nat} : Y114 d Q 75 lv (.int j :: .ref c :: st) σ ↔ (zK c = 100 ∧ vp_in j (zLn c)) ∧ Y114 d Q 76 lv (.int (σ.1 c j.toNatClampNeg) :: st) σ := yX_at (.iaload, 1, 0, 0, 0, 0, []) rfl
theorem g114_76 {x y : Int32} : Y114 d Q 76 lv (.int y :: .int x :: st) σ ↔ Y114 d Q 77 lv (.int (x + y) :: st) σ := yX_at (.iadd, 1, 0, 0, 0, 0, []) rfl
theorem g114_77 {x j : Int32} {c : Nat} : Y114 d Q 77 lv (.int x :: .int j :: .ref c :: st) σ ↔ (zK c = 100 ∧ vp_in j (zLn c)) ∧ Y114 d Q 78 lv st (zwI σ c j.toNatClampNeg x) := yX_at (.iastore, 1, 0, 0, 0, 0, []) rfl
theorem g114_78  : Y114 d Q 78 lv st σ ↔ zldR lv 0 (fun x => Y114 d Q 79 lv (.ref x :: st) σ) := yX_at (.aload_n 0, 1, 0, 0, 0, 0, []) rfl
theorem g114_79 {c : Nat} : Y114 d Q 79 lv (.ref c :: st) σ ↔ zK c = 7 ∧ Y114 d Q 82 lv (zfv σ c 7 :: st) σ := yX_at (.getfield 26, 3, 7, 7, 217, 0, []) rfl
theorem g114_82  : Y114 d Q 82 lv st σ ↔ Y114 d Q 83 lv (.int 5 :: st) σ := yX_at (.iconst 5, 1, 0, 0, 0, 0, []) rfl
theorem g114_83  : Y114 d Q 83 lv st σ ↔ zldI lv 1 (fun x => Y114 d Q 84 lv (.int x :: st) σ) := yX_at (.iload_n 1, 1, 0, 0, 0, 0, []) rfl
theorem g114_84 {x y : Int32} : Y114 d Q 84 lv (.int y :: .int x :: st) σ ↔ Y114 d Q 85 lv (.int (x * y) :: st) σ := yX_at (.imul, 1, 0, 0, 0, 0, []) rfl
theorem g114_85  : Y114 d Q 85 lv st σ ↔ Y114 d Q 86 lv (.int 3 :: st) σ := yX_at (.iconst 3, 1, 0, 0, 0, 0, []) rfl
theorem g114_86 {x y : Int32} : Y114 d Q 86 lv (.int y :: .int x :: st) σ ↔ Y114 d Q 87 lv (.int (x + y) :: st) σ := yX_at (.iadd, 1, 0, 0, 0, 0, []) rfl
theorem g114_87 {j : Int32} {c : Nat} : Y114 d Q 87 lv (.int j :: .ref c :: st) σ ↔ (zK c = 100 ∧ vp_in j (zLn c)) ∧ Y114 d Q 88 lv (.int (σ.1 c j.toNatClampNeg) :: st) σ := yX_at (.iaload, 1, 0, 0, 0, 0, []) rfl
theorem g114_88 {x : Int32} : Y114 d Q 88 lv [.int x] σ ↔ Q (some (.int x)) σ := yX_at (.ireturn, 1, 0, 0, 0, 0, []) rfl
end G114
def Y115 (d : Nat) (Q : Option Value → zSt → Prop) (pc : Nat) (lv : zLv) (st : List Value) (σ : zSt) : Prop := yX (yE d) ySn zt115 Q pc lv st σ
theorem C115 {d : Nat} {as : List Value} {σ : zSt} {P : Option Value → zSt → Prop} (hl : (lg_sl as).length ≤ 4) (h : Y115 d P 0 (lv_args 0 as) [] σ) : yC (d + 1) 115 as σ P := yC_of (by decide) hl h
section G115
variable {d : Nat} {Q : Option Value → zSt → Prop} {lv : zLv} {st : List Value} {σ : zSt}
theorem g115_0  : Y115 d Q 0 lv st σ ↔ zldR lv 0 (fun x => Y115 d Q 1 lv (.ref x :: st) σ) := yX_at (.aload_n 0, 1, 0, 0, 0, 0, []) rfl
theorem g115_1  : Y115 d Q 1 lv st σ ↔ zldI lv 1 (fun x => Y115 d Q 2 lv (.int x :: st) σ) := yX_at (.iload_n 1, 1, 0, 0, 0, 0, []) rfl
theorem g115_2 {v0 : Value} {c : Nat} : Y115 d Q 2 lv (v0 :: .ref c :: st) σ ↔ (zrcv 7 c ∧ zrm st) ∧ ∃ rv σ', yE d 96 [.ref c, v0] σ rv σ' ∧ Y115 d Q 5 lv (rv.toList ++ st) σ' := yX_at (.invokevirtual 142, 3, 96, 1, 224, 0, []) rfl
theorem g115_5 {x : Int32} : Y115 d Q 5 lv (.int x :: st) σ ↔ (x = 0 → Y115 d Q 16 lv st σ) ∧ (¬ x = 0 → Y115 d Q 8 lv st σ) := yX_at (.ifCond .eq 11, 3, 16, 0, 0, 0, []) rfl
theorem g115_8  : Y115 d Q 8 lv st σ ↔ zldR lv 0 (fun x => Y115 d Q 9 lv (.ref x :: st) σ) := yX_at (.aload_n 0, 1, 0, 0, 0, 0, []) rfl
theorem g115_9  : Y115 d Q 9 lv st σ ↔ zldI lv 2 (fun x => Y115 d Q 10 lv (.int x :: st) σ) := yX_at (.iload_n 2, 1, 0, 0, 0, 0, []) rfl
theorem g115_10 {v0 : Value} {c : Nat} : Y115 d Q 10 lv (v0 :: .ref c :: st) σ ↔ (zrcv 7 c ∧ zrm st) ∧ ∃ rv σ', yE d 95 [.ref c, v0] σ rv σ' ∧ Y115 d Q 13 lv (rv.toList ++ st) σ' := yX_at (.invokevirtual 136, 3, 95, 1, 222, 0, []) rfl
theorem g115_13 {x : Int32} : Y115 d Q 13 lv (.int x :: st) σ ↔ (¬ x = 0 → Y115 d Q 18 lv st σ) ∧ (x = 0 → Y115 d Q 16 lv st σ) := yX_at (.ifCond .ne 5, 3, 18, 0, 0, 0, []) rfl
theorem g115_16  : Y115 d Q 16 lv st σ ↔ Y115 d Q 17 lv (.int (-1) :: st) σ := by
  rw [show (-1 : Int32) = Int32.ofInt (-1) from by decide]
  exact yX_at (.iconst (-1), 1, 0, 0, 0, 0, []) rfl
theorem g115_17 {x : Int32} : Y115 d Q 17 lv [.int x] σ ↔ Q (some (.int x)) σ := yX_at (.ireturn, 1, 0, 0, 0, 0, []) rfl
theorem g115_18  : Y115 d Q 18 lv st σ ↔ zldR lv 0 (fun x => Y115 d Q 19 lv (.ref x :: st) σ) := yX_at (.aload_n 0, 1, 0, 0, 0, 0, []) rfl
theorem g115_19  : Y115 d Q 19 lv st σ ↔ zldI lv 1 (fun x => Y115 d Q 20 lv (.int x :: st) σ) := yX_at (.iload_n 1, 1, 0, 0, 0, 0, []) rfl
theorem g115_20 {v0 : Value} {c : Nat} : Y115 d Q 20 lv (v0 :: .ref c :: st) σ ↔ (zrcv 7 c ∧ zrm st) ∧ ∃ rv σ', yE d 105 [.ref c, v0] σ rv σ' ∧ Y115 d Q 23 lv (rv.toList ++ st) σ' := yX_at (.invokevirtual 147, 3, 105, 1, 226, 0, []) rfl
theorem g115_23 {x : Int32} : Y115 d Q 23 lv (.int x :: st) σ ↔ Y115 d Q 24 (zs1 3 (.int x) lv) st σ := yX_at (.istore_n 3, 1, 0, 0, 0, 0, []) rfl
theorem g115_24  : Y115 d Q 24 lv st σ ↔ zldR lv 0 (fun x => Y115 d Q 25 lv (.ref x :: st) σ) := yX_at (.aload_n 0, 1, 0, 0, 0, 0, []) rfl
theorem g115_25 {c : Nat} : Y115 d Q 25 lv (.ref c :: st) σ ↔ zK c = 7 ∧ Y115 d Q 28 lv (zfv σ c 0 :: st) σ := yX_at (.getfield 7, 3, 7, 0, 220, 0, []) rfl
theorem g115_28  : Y115 d Q 28 lv st σ ↔ Y115 d Q 29 lv (.int 3 :: st) σ := yX_at (.iconst 3, 1, 0, 0, 0, 0, []) rfl
theorem g115_29  : Y115 d Q 29 lv st σ ↔ zldI lv 1 (fun x => Y115 d Q 30 lv (.int x :: st) σ) := yX_at (.iload_n 1, 1, 0, 0, 0, 0, []) rfl
theorem g115_30 {x y : Int32} : Y115 d Q 30 lv (.int y :: .int x :: st) σ ↔ Y115 d Q 31 lv (.int (x + y) :: st) σ := yX_at (.iadd, 1, 0, 0, 0, 0, []) rfl
theorem g115_31 {j : Int32} {c : Nat} : Y115 d Q 31 lv (.int j :: .ref c :: st) σ ↔ (zK c = 100 ∧ vp_in j (zLn c)) ∧ Y115 d Q 32 lv (.int (σ.1 c j.toNatClampNeg) :: st) σ := yX_at (.iaload, 1, 0, 0, 0, 0, []) rfl
theorem g115_32  : Y115 d Q 32 lv st σ ↔ Y115 d Q 33 lv (.int 1 :: st) σ := yX_at (.iconst 1, 1, 0, 0, 0, 0, []) rfl
theorem g115_33 {x y : Int32} : Y115 d Q 33 lv (.int y :: .int x :: st) σ ↔ (¬ x = y → Y115 d Q 41 lv st σ) ∧ (x = y → Y115 d Q 36 lv st σ) := yX_at (.if_icmp .ne 8, 3, 41, 0, 0, 0, []) rfl
theorem g115_36  : Y115 d Q 36 lv st σ ↔ zldI lv 3 (fun x => Y115 d Q 37 lv (.int x :: st) σ) := yX_at (.iload_n 3, 1, 0, 0, 0, 0, []) rfl
theorem g115_37  : Y115 d Q 37 lv st σ ↔ zldI lv 2 (fun x => Y115 d Q 38 lv (.int x :: st) σ) := yX_at (.iload_n 2, 1, 0, 0, 0, 0, []) rfl
theorem g115_38 {x y : Int32} : Y115 d Q 38 lv (.int y :: .int x :: st) σ ↔ (¬ x = y → Y115 d Q 44 lv st σ) ∧ (x = y → Y115 d Q 41 lv st σ) := yX_at (.if_icmp .ne 6, 3, 44, 0, 0, 0, []) rfl
theorem g115_41  : Y115 d Q 41 lv st σ ↔ Y115 d Q 43 lv (.int (-2) :: st) σ := by
  rw [show (-2 : Int32) = (Int8.ofInt (-2)).toInt32 from by decide]
  exact yX_at (.bipush (-2), 2, 0, 0, 0, 0, []) rfl
theorem g115_43 {x : Int32} : Y115 d Q 43 lv [.int x] σ ↔ Q (some (.int x)) σ := yX_at (.ireturn, 1, 0, 0, 0, 0, []) rfl
theorem g115_44  : Y115 d Q 44 lv st σ ↔ zldR lv 0 (fun x => Y115 d Q 45 lv (.ref x :: st) σ) := yX_at (.aload_n 0, 1, 0, 0, 0, 0, []) rfl
theorem g115_45 {c : Nat} : Y115 d Q 45 lv (.ref c :: st) σ ↔ zK c = 7 ∧ Y115 d Q 48 lv (zfv σ c 0 :: st) σ := yX_at (.getfield 7, 3, 7, 0, 220, 0, []) rfl
theorem g115_48  : Y115 d Q 48 lv st σ ↔ Y115 d Q 50 lv (.int 19 :: st) σ := yX_at (.bipush 19, 2, 0, 0, 0, 0, []) rfl
theorem g115_50  : Y115 d Q 50 lv st σ ↔ zldI lv 2 (fun x => Y115 d Q 51 lv (.int x :: st) σ) := yX_at (.iload_n 2, 1, 0, 0, 0, 0, []) rfl
theorem g115_51 {x y : Int32} : Y115 d Q 51 lv (.int y :: .int x :: st) σ ↔ Y115 d Q 52 lv (.int (x + y) :: st) σ := yX_at (.iadd, 1, 0, 0, 0, 0, []) rfl
theorem g115_52 {j : Int32} {c : Nat} : Y115 d Q 52 lv (.int j :: .ref c :: st) σ ↔ (zK c = 100 ∧ vp_in j (zLn c)) ∧ Y115 d Q 53 lv (.int (σ.1 c j.toNatClampNeg) :: st) σ := yX_at (.iaload, 1, 0, 0, 0, 0, []) rfl
theorem g115_53  : Y115 d Q 53 lv st σ ↔ zldR lv 0 (fun x => Y115 d Q 54 lv (.ref x :: st) σ) := yX_at (.aload_n 0, 1, 0, 0, 0, 0, []) rfl
theorem g115_54 {c : Nat} : Y115 d Q 54 lv (.ref c :: st) σ ↔ zK c = 7 ∧ Y115 d Q 57 lv (zfv σ c 3 :: st) σ := yX_at (.getfield 17, 3, 7, 3, 214, 0, []) rfl
theorem g115_57  : Y115 d Q 57 lv st σ ↔ zldI lv 2 (fun x => Y115 d Q 58 lv (.int x :: st) σ) := yX_at (.iload_n 2, 1, 0, 0, 0, 0, []) rfl
theorem g115_58 {j : Int32} {c : Nat} : Y115 d Q 58 lv (.int j :: .ref c :: st) σ ↔ (zK c = 100 ∧ vp_in j (zLn c)) ∧ Y115 d Q 59 lv (.int (σ.1 c j.toNatClampNeg) :: st) σ := yX_at (.iaload, 1, 0, 0, 0, 0, []) rfl
theorem g115_59 {x y : Int32} : Y115 d Q 59 lv (.int y :: .int x :: st) σ ↔ (¬ x = y → Y115 d Q 65 lv st σ) ∧ (x = y → Y115 d Q 62 lv st σ) := yX_at (.if_icmp .ne 6, 3, 65, 0, 0, 0, []) rfl
theorem g115_62  : Y115 d Q 62 lv st σ ↔ Y115 d Q 64 lv (.int (-3) :: st) σ := by
  rw [show (-3 : Int32) = (Int8.ofInt (-3)).toInt32 from by decide]
  exact yX_at (.bipush (-3), 2, 0, 0, 0, 0, []) rfl
theorem g115_64 {x : Int32} : Y115 d Q 64 lv [.int x] σ ↔ Q (some (.int x)) σ := yX_at (.ireturn, 1, 0, 0, 0, 0, []) rfl
theorem g115_65  : Y115 d Q 65 lv st σ ↔ zldR lv 0 (fun x => Y115 d Q 66 lv (.ref x :: st) σ) := yX_at (.aload_n 0, 1, 0, 0, 0, 0, []) rfl
theorem g115_66  : Y115 d Q 66 lv st σ ↔ Y115 d Q 67 lv (.int 3 :: st) σ := yX_at (.iconst 3, 1, 0, 0, 0, 0, []) rfl
theorem g115_67  : Y115 d Q 67 lv st σ ↔ zldI lv 1 (fun x => Y115 d Q 68 lv (.int x :: st) σ) := yX_at (.iload_n 1, 1, 0, 0, 0, 0, []) rfl
theorem g115_68  : Y115 d Q 68 lv st σ ↔ zldI lv 3 (fun x => Y115 d Q 69 lv (.int x :: st) σ) := yX_at (.iload_n 3, 1, 0, 0, 0, 0, []) rfl
theorem g115_69  : Y115 d Q 69 lv st σ ↔ zldR lv 0 (fun x => Y115 d Q 70 lv (.ref x :: st) σ) := yX_at (.aload_n 0, 1, 0, 0, 0, 0, []) rfl
theorem g115_70  : Y115 d Q 70 lv st σ ↔ zldI lv 3 (fun x => Y115 d Q 71 lv (.int x :: st) σ) := yX_at (.iload_n 3, 1, 0, 0, 0, 0, []) rfl
theorem g115_71  : Y115 d Q 71 lv st σ ↔ zldI lv 1 (fun x => Y115 d Q 72 lv (.int x :: st) σ) := yX_at (.iload_n 1, 1, 0, 0, 0, 0, []) rfl
theorem g115_72 {v0 v1 : Value} {c : Nat} : Y115 d Q 72 lv (v1 :: v0 :: .ref c :: st) σ ↔ (zrcv 7 c ∧ zrm st) ∧ ∃ rv σ', yE d 109 [.ref c, v0, v1] σ rv σ' ∧ Y115 d Q 75 lv (rv.toList ++ st) σ' := yX_at (.invokevirtual 151, 3, 109, 2, 227, 0, []) rfl
theorem g115_75 {v0 v1 v2 v3 : Value} {c : Nat} : Y115 d Q 75 lv (v3 :: v2 :: v1 :: v0 :: .ref c :: st) σ ↔ (zrcv 7 c ∧ zrm st) ∧ ∃ rv σ', yE d 111 [.ref c, v0, v1, v2, v3] σ rv σ' ∧ Y115 d Q 78 lv (rv.toList ++ st) σ' := yX_at (.invokevirtual 158, 3, 111, 4, 229, 0, []) rfl
theorem g115_78  : Y115 d Q 78 lv st σ ↔ zldR lv 0 (fun x => Y115 d Q 79 lv (.ref x :: st) σ) := yX_at (.aload_n 0, 1, 0, 0, 0, 0, []) rfl
theorem g115_79  : Y115 d Q 79 lv st σ ↔ zldI lv 3 (fun x => Y115 d Q 80 lv (.int x :: st) σ) := yX_at (.iload_n 3, 1, 0, 0, 0, 0, []) rfl
theorem g115_80  : Y115 d Q 80 lv st σ ↔ zldI lv 1 (fun x => Y115 d Q 81 lv (.int x :: st) σ) := yX_at (.iload_n 1, 1, 0, 0, 0, 0, []) rfl
theorem g115_81 {v0 v1 : Value} {c : Nat} : Y115 d Q 81 lv (v1 :: v0 :: .ref c :: st) σ ↔ (zrcv 7 c ∧ zrm st) ∧ ∃ rv σ', yE d 110 [.ref c, v0, v1] σ rv σ' ∧ Y115 d Q 84 lv (rv.toList ++ st) σ' := yX_at (.invokevirtual 162, 3, 110, 2, 230, 0, []) rfl
theorem g115_84  : Y115 d Q 84 lv st σ ↔ zldR lv 0 (fun x => Y115 d Q 85 lv (.ref x :: st) σ) := yX_at (.aload_n 0, 1, 0, 0, 0, 0, []) rfl
theorem g115_85  : Y115 d Q 85 lv st σ ↔ zldI lv 2 (fun x => Y115 d Q 86 lv (.int x :: st) σ) := yX_at (.iload_n 2, 1, 0, 0, 0, 0, []) rfl
theorem g115_86  : Y115 d Q 86 lv st σ ↔ zldR lv 0 (fun x => Y115 d Q 87 lv (.ref x :: st) σ) := yX_at (.aload_n 0, 1, 0, 0, 0, 0, []) rfl
theorem g115_87 {c : Nat} : Y115 d Q 87 lv (.ref c :: st) σ ↔ zK c = 7 ∧ Y115 d Q 90 lv (zfv σ c 0 :: st) σ := yX_at (.getfield 7, 3, 7, 0, 220, 0, []) rfl
theorem g115_90  : Y115 d Q 90 lv st σ ↔ Y115 d Q 92 lv (.int 19 :: st) σ := yX_at (.bipush 19, 2, 0, 0, 0, 0, []) rfl
theorem g115_92  : Y115 d Q 92 lv st σ ↔ zldI lv 2 (fun x => Y115 d Q 93 lv (.int x :: st) σ) := yX_at (.iload_n 2, 1, 0, 0, 0, 0, []) rfl
theorem g115_93 {x y : Int32} : Y115 d Q 93 lv (.int y :: .int x :: st) σ ↔ Y115 d Q 94 lv (.int (x + y) :: st) σ := yX_at (.iadd, 1, 0, 0, 0, 0, []) rfl
theorem g115_94 {j : Int32} {c : Nat} : Y115 d Q 94 lv (.int j :: .ref c :: st) σ ↔ (zK c = 100 ∧ vp_in j (zLn c)) ∧ Y115 d Q 95 lv (.int (σ.1 c j.toNatClampNeg) :: st) σ := yX_at (.iaload, 1, 0, 0, 0, 0, []) rfl
theorem g115_95  : Y115 d Q 95 lv st σ ↔ zldI lv 1 (fun x => Y115 d Q 96 lv (.int x :: st) σ) := yX_at (.iload_n 1, 1, 0, 0, 0, 0, []) rfl
theorem g115_96 {v0 v1 v2 : Value} {c : Nat} : Y115 d Q 96 lv (v2 :: v1 :: v0 :: .ref c :: st) σ ↔ (zrcv 7 c ∧ zrm st) ∧ ∃ rv σ', yE d 108 [.ref c, v0, v1, v2] σ rv σ' ∧ Y115 d Q 99 lv (rv.toList ++ st) σ' := yX_at (.invokevirtual 154, 3, 108, 3, 228, 0, []) rfl
theorem g115_99  : Y115 d Q 99 lv st σ ↔ zldR lv 0 (fun x => Y115 d Q 100 lv (.ref x :: st) σ) := yX_at (.aload_n 0, 1, 0, 0, 0, 0, []) rfl
theorem g115_100 {c : Nat} : Y115 d Q 100 lv (.ref c :: st) σ ↔ zK c = 7 ∧ Y115 d Q 103 lv (zfv σ c 0 :: st) σ := yX_at (.getfield 7, 3, 7, 0, 220, 0, []) rfl
theorem g115_103  : Y115 d Q 103 lv st σ ↔ Y115 d Q 105 lv (.int 19 :: st) σ := yX_at (.bipush 19, 2, 0, 0, 0, 0, []) rfl
theorem g115_105  : Y115 d Q 105 lv st σ ↔ zldI lv 2 (fun x => Y115 d Q 106 lv (.int x :: st) σ) := yX_at (.iload_n 2, 1, 0, 0, 0, 0, []) rfl
theorem g115_106 {x y : Int32} : Y115 d Q 106 lv (.int y :: .int x :: st) σ ↔ Y115 d Q 107 lv (.int (x + y) :: st) σ := yX_at (.iadd, 1, 0, 0, 0, 0, []) rfl
theorem g115_107 {j : Int32} {c : Nat} : Y115 d Q 107 lv (.int j :: .ref c :: st) σ ↔ (zK c = 100 ∧ vp_in j (zLn c)) ∧ Y115 d Q 108 lv (.int (σ.1 c j.toNatClampNeg) :: st) σ := yX_at (.iaload, 1, 0, 0, 0, 0, []) rfl
theorem g115_108 {x : Int32} : Y115 d Q 108 lv [.int x] σ ↔ Q (some (.int x)) σ := yX_at (.ireturn, 1, 0, 0, 0, 0, []) rfl
end G115
def Y116 (d : Nat) (Q : Option Value → zSt → Prop) (pc : Nat) (lv : zLv) (st : List Value) (σ : zSt) : Prop := yX (yE d) ySn zt116 Q pc lv st σ
theorem C116 {d : Nat} {as : List Value} {σ : zSt} {P : Option Value → zSt → Prop} (hl : (lg_sl as).length ≤ 4) (h : Y116 d P 0 (lv_args 0 as) [] σ) : yC (d + 1) 116 as σ P := yC_of (by decide) hl h
section G116
variable {d : Nat} {Q : Option Value → zSt → Prop} {lv : zLv} {st : List Value} {σ : zSt}
theorem g116_0  : Y116 d Q 0 lv st σ ↔ zldR lv 0 (fun x => Y116 d Q 1 lv (.ref x :: st) σ) := yX_at (.aload_n 0, 1, 0, 0, 0, 0, []) rfl
theorem g116_1 {c : Nat} : Y116 d Q 1 lv (.ref c :: st) σ ↔ zK c = 7 ∧ Y116 d Q 4 lv (zfv σ c 0 :: st) σ := yX_at (.getfield 7, 3, 7, 0, 220, 0, []) rfl
theorem g116_4  : Y116 d Q 4 lv st σ ↔ Y116 d Q 6 lv (.int 43 :: st) σ := yX_at (.bipush 43, 2, 0, 0, 0, 0, []) rfl
theorem g116_6 {j : Int32} {c : Nat} : Y116 d Q 6 lv (.int j :: .ref c :: st) σ ↔ (zK c = 100 ∧ vp_in j (zLn c)) ∧ Y116 d Q 7 lv (.int (σ.1 c j.toNatClampNeg) :: st) σ := yX_at (.iaload, 1, 0, 0, 0, 0, []) rfl
theorem g116_7 {x : Int32} : Y116 d Q 7 lv (.int x :: st) σ ↔ (¬ x = 0 → Y116 d Q 13 lv st σ) ∧ (x = 0 → Y116 d Q 10 lv st σ) := yX_at (.ifCond .ne 6, 3, 13, 0, 0, 0, []) rfl
theorem g116_10  : Y116 d Q 10 lv st σ ↔ Y116 d Q 12 lv (.int (-2) :: st) σ := by
  rw [show (-2 : Int32) = (Int8.ofInt (-2)).toInt32 from by decide]
  exact yX_at (.bipush (-2), 2, 0, 0, 0, 0, []) rfl
theorem g116_12 {x : Int32} : Y116 d Q 12 lv [.int x] σ ↔ Q (some (.int x)) σ := yX_at (.ireturn, 1, 0, 0, 0, 0, []) rfl
theorem g116_13  : Y116 d Q 13 lv st σ ↔ zldR lv 0 (fun x => Y116 d Q 14 lv (.ref x :: st) σ) := yX_at (.aload_n 0, 1, 0, 0, 0, 0, []) rfl
theorem g116_14 {c : Nat} : Y116 d Q 14 lv (.ref c :: st) σ ↔ zK c = 7 ∧ Y116 d Q 17 lv (zfv σ c 0 :: st) σ := yX_at (.getfield 7, 3, 7, 0, 220, 0, []) rfl
theorem g116_17  : Y116 d Q 17 lv st σ ↔ Y116 d Q 19 lv (.int 43 :: st) σ := yX_at (.bipush 43, 2, 0, 0, 0, 0, []) rfl
theorem g116_19  : Y116 d Q 19 lv st σ ↔ zdup2 st (fun r => Y116 d Q 20 lv r σ) := yX_at (.dup2, 1, 0, 0, 0, 0, []) rfl
theorem g116_20 {j : Int32} {c : Nat} : Y116 d Q 20 lv (.int j :: .ref c :: st) σ ↔ (zK c = 100 ∧ vp_in j (zLn c)) ∧ Y116 d Q 21 lv (.int (σ.1 c j.toNatClampNeg) :: st) σ := yX_at (.iaload, 1, 0, 0, 0, 0, []) rfl
theorem g116_21  : Y116 d Q 21 lv st σ ↔ Y116 d Q 22 lv (.int 1 :: st) σ := yX_at (.iconst 1, 1, 0, 0, 0, 0, []) rfl
theorem g116_22 {x y : Int32} : Y116 d Q 22 lv (.int y :: .int x :: st) σ ↔ Y116 d Q 23 lv (.int (x - y) :: st) σ := yX_at (.isub, 1, 0, 0, 0, 0, []) rfl
theorem g116_23 {x j : Int32} {c : Nat} : Y116 d Q 23 lv (.int x :: .int j :: .ref c :: st) σ ↔ (zK c = 100 ∧ vp_in j (zLn c)) ∧ Y116 d Q 24 lv st (zwI σ c j.toNatClampNeg x) := yX_at (.iastore, 1, 0, 0, 0, 0, []) rfl
theorem g116_24  : Y116 d Q 24 lv st σ ↔ Y116 d Q 26 lv (.int 44 :: st) σ := yX_at (.bipush 44, 2, 0, 0, 0, 0, []) rfl
theorem g116_26  : Y116 d Q 26 lv st σ ↔ Y116 d Q 27 lv (.int 4 :: st) σ := yX_at (.iconst 4, 1, 0, 0, 0, 0, []) rfl
theorem g116_27  : Y116 d Q 27 lv st σ ↔ zldR lv 0 (fun x => Y116 d Q 28 lv (.ref x :: st) σ) := yX_at (.aload_n 0, 1, 0, 0, 0, 0, []) rfl
theorem g116_28 {c : Nat} : Y116 d Q 28 lv (.ref c :: st) σ ↔ zK c = 7 ∧ Y116 d Q 31 lv (zfv σ c 0 :: st) σ := yX_at (.getfield 7, 3, 7, 0, 220, 0, []) rfl
theorem g116_31  : Y116 d Q 31 lv st σ ↔ Y116 d Q 33 lv (.int 43 :: st) σ := yX_at (.bipush 43, 2, 0, 0, 0, 0, []) rfl
theorem g116_33 {j : Int32} {c : Nat} : Y116 d Q 33 lv (.int j :: .ref c :: st) σ ↔ (zK c = 100 ∧ vp_in j (zLn c)) ∧ Y116 d Q 34 lv (.int (σ.1 c j.toNatClampNeg) :: st) σ := yX_at (.iaload, 1, 0, 0, 0, 0, []) rfl
theorem g116_34 {x y : Int32} : Y116 d Q 34 lv (.int y :: .int x :: st) σ ↔ Y116 d Q 35 lv (.int (x * y) :: st) σ := yX_at (.imul, 1, 0, 0, 0, 0, []) rfl
theorem g116_35 {x y : Int32} : Y116 d Q 35 lv (.int y :: .int x :: st) σ ↔ Y116 d Q 36 lv (.int (x + y) :: st) σ := yX_at (.iadd, 1, 0, 0, 0, 0, []) rfl
theorem g116_36 {x : Int32} : Y116 d Q 36 lv (.int x :: st) σ ↔ Y116 d Q 37 (zs1 1 (.int x) lv) st σ := yX_at (.istore_n 1, 1, 0, 0, 0, 0, []) rfl
theorem g116_37  : Y116 d Q 37 lv st σ ↔ zldR lv 0 (fun x => Y116 d Q 38 lv (.ref x :: st) σ) := yX_at (.aload_n 0, 1, 0, 0, 0, 0, []) rfl
theorem g116_38 {c : Nat} : Y116 d Q 38 lv (.ref c :: st) σ ↔ zK c = 7 ∧ Y116 d Q 41 lv (zfv σ c 0 :: st) σ := yX_at (.getfield 7, 3, 7, 0, 220, 0, []) rfl
theorem g116_41  : Y116 d Q 41 lv st σ ↔ zldI lv 1 (fun x => Y116 d Q 42 lv (.int x :: st) σ) := yX_at (.iload_n 1, 1, 0, 0, 0, 0, []) rfl
theorem g116_42 {j : Int32} {c : Nat} : Y116 d Q 42 lv (.int j :: .ref c :: st) σ ↔ (zK c = 100 ∧ vp_in j (zLn c)) ∧ Y116 d Q 43 lv (.int (σ.1 c j.toNatClampNeg) :: st) σ := yX_at (.iaload, 1, 0, 0, 0, 0, []) rfl
theorem g116_43 {x : Int32} : Y116 d Q 43 lv (.int x :: st) σ ↔ Y116 d Q 44 (zs1 2 (.int x) lv) st σ := yX_at (.istore_n 2, 1, 0, 0, 0, 0, []) rfl
theorem g116_44  : Y116 d Q 44 lv st σ ↔ zldR lv 0 (fun x => Y116 d Q 45 lv (.ref x :: st) σ) := yX_at (.aload_n 0, 1, 0, 0, 0, 0, []) rfl
theorem g116_45 {c : Nat} : Y116 d Q 45 lv (.ref c :: st) σ ↔ zK c = 7 ∧ Y116 d Q 48 lv (zfv σ c 0 :: st) σ := yX_at (.getfield 7, 3, 7, 0, 220, 0, []) rfl
theorem g116_48  : Y116 d Q 48 lv st σ ↔ zldI lv 1 (fun x => Y116 d Q 49 lv (.int x :: st) σ) := yX_at (.iload_n 1, 1, 0, 0, 0, 0, []) rfl
theorem g116_49  : Y116 d Q 49 lv st σ ↔ Y116 d Q 50 lv (.int 1 :: st) σ := yX_at (.iconst 1, 1, 0, 0, 0, 0, []) rfl
theorem g116_50 {x y : Int32} : Y116 d Q 50 lv (.int y :: .int x :: st) σ ↔ Y116 d Q 51 lv (.int (x + y) :: st) σ := yX_at (.iadd, 1, 0, 0, 0, 0, []) rfl
theorem g116_51 {j : Int32} {c : Nat} : Y116 d Q 51 lv (.int j :: .ref c :: st) σ ↔ (zK c = 100 ∧ vp_in j (zLn c)) ∧ Y116 d Q 52 lv (.int (σ.1 c j.toNatClampNeg) :: st) σ := yX_at (.iaload, 1, 0, 0, 0, 0, []) rfl
theorem g116_52 {x : Int32} : Y116 d Q 52 lv (.int x :: st) σ ↔ Y116 d Q 53 (zs1 3 (.int x) lv) st σ := yX_at (.istore_n 3, 1, 0, 0, 0, 0, []) rfl
theorem g116_53  : Y116 d Q 53 lv st σ ↔ zldI lv 2 (fun x => Y116 d Q 54 lv (.int x :: st) σ) := yX_at (.iload_n 2, 1, 0, 0, 0, 0, []) rfl
theorem g116_54 {x : Int32} : Y116 d Q 54 lv (.int x :: st) σ ↔ (¬ x = 0 → Y116 d Q 97 lv st σ) ∧ (x = 0 → Y116 d Q 57 lv st σ) := yX_at (.ifCond .ne 43, 3, 97, 0, 0, 0, []) rfl
theorem g116_57  : Y116 d Q 57 lv st σ ↔ zldR lv 0 (fun x => Y116 d Q 58 lv (.ref x :: st) σ) := yX_at (.aload_n 0, 1, 0, 0, 0, 0, []) rfl
theorem g116_58  : Y116 d Q 58 lv st σ ↔ zldR lv 0 (fun x => Y116 d Q 59 lv (.ref x :: st) σ) := yX_at (.aload_n 0, 1, 0, 0, 0, 0, []) rfl
theorem g116_59 {c : Nat} : Y116 d Q 59 lv (.ref c :: st) σ ↔ zK c = 7 ∧ Y116 d Q 62 lv (zfv σ c 0 :: st) σ := yX_at (.getfield 7, 3, 7, 0, 220, 0, []) rfl
theorem g116_62  : Y116 d Q 62 lv st σ ↔ zldI lv 1 (fun x => Y116 d Q 63 lv (.int x :: st) σ) := yX_at (.iload_n 1, 1, 0, 0, 0, 0, []) rfl
theorem g116_63  : Y116 d Q 63 lv st σ ↔ Y116 d Q 64 lv (.int 2 :: st) σ := yX_at (.iconst 2, 1, 0, 0, 0, 0, []) rfl
theorem g116_64 {x y : Int32} : Y116 d Q 64 lv (.int y :: .int x :: st) σ ↔ Y116 d Q 65 lv (.int (x + y) :: st) σ := yX_at (.iadd, 1, 0, 0, 0, 0, []) rfl
theorem g116_65 {j : Int32} {c : Nat} : Y116 d Q 65 lv (.int j :: .ref c :: st) σ ↔ (zK c = 100 ∧ vp_in j (zLn c)) ∧ Y116 d Q 66 lv (.int (σ.1 c j.toNatClampNeg) :: st) σ := yX_at (.iaload, 1, 0, 0, 0, 0, []) rfl
theorem g116_66  : Y116 d Q 66 lv st σ ↔ zldI lv 3 (fun x => Y116 d Q 67 lv (.int x :: st) σ) := yX_at (.iload_n 3, 1, 0, 0, 0, 0, []) rfl
theorem g116_67 {v0 v1 : Value} {c : Nat} : Y116 d Q 67 lv (v1 :: v0 :: .ref c :: st) σ ↔ (zrcv 7 c ∧ zrm st) ∧ ∃ rv σ', yE d 110 [.ref c, v0, v1] σ rv σ' ∧ Y116 d Q 70 lv (rv.toList ++ st) σ' := yX_at (.invokevirtual 162, 3, 110, 2, 230, 0, []) rfl
theorem g116_70  : Y116 d Q 70 lv st σ ↔ zldR lv 0 (fun x => Y116 d Q 71 lv (.ref x :: st) σ) := yX_at (.aload_n 0, 1, 0, 0, 0, 0, []) rfl
theorem g116_71 {c : Nat} : Y116 d Q 71 lv (.ref c :: st) σ ↔ zK c = 7 ∧ Y116 d Q 74 lv (zfv σ c 0 :: st) σ := yX_at (.getfield 7, 3, 7, 0, 220, 0, []) rfl
theorem g116_74  : Y116 d Q 74 lv st σ ↔ Y116 d Q 75 lv (.int 3 :: st) σ := yX_at (.iconst 3, 1, 0, 0, 0, 0, []) rfl
theorem g116_75  : Y116 d Q 75 lv st σ ↔ zldI lv 3 (fun x => Y116 d Q 76 lv (.int x :: st) σ) := yX_at (.iload_n 3, 1, 0, 0, 0, 0, []) rfl
theorem g116_76 {x y : Int32} : Y116 d Q 76 lv (.int y :: .int x :: st) σ ↔ Y116 d Q 77 lv (.int (x + y) :: st) σ := yX_at (.iadd, 1, 0, 0, 0, 0, []) rfl
theorem g116_77  : Y116 d Q 77 lv st σ ↔ Y116 d Q 78 lv (.int 0 :: st) σ := yX_at (.iconst 0, 1, 0, 0, 0, 0, []) rfl
theorem g116_78 {x j : Int32} {c : Nat} : Y116 d Q 78 lv (.int x :: .int j :: .ref c :: st) σ ↔ (zK c = 100 ∧ vp_in j (zLn c)) ∧ Y116 d Q 79 lv st (zwI σ c j.toNatClampNeg x) := yX_at (.iastore, 1, 0, 0, 0, 0, []) rfl
theorem g116_79  : Y116 d Q 79 lv st σ ↔ zldR lv 0 (fun x => Y116 d Q 80 lv (.ref x :: st) σ) := yX_at (.aload_n 0, 1, 0, 0, 0, 0, []) rfl
theorem g116_80 {c : Nat} : Y116 d Q 80 lv (.ref c :: st) σ ↔ zK c = 7 ∧ Y116 d Q 83 lv (zfv σ c 0 :: st) σ := yX_at (.getfield 7, 3, 7, 0, 220, 0, []) rfl
theorem g116_83  : Y116 d Q 83 lv st σ ↔ Y116 d Q 85 lv (.int 11 :: st) σ := yX_at (.bipush 11, 2, 0, 0, 0, 0, []) rfl
theorem g116_85  : Y116 d Q 85 lv st σ ↔ zldI lv 3 (fun x => Y116 d Q 86 lv (.int x :: st) σ) := yX_at (.iload_n 3, 1, 0, 0, 0, 0, []) rfl
theorem g116_86 {x y : Int32} : Y116 d Q 86 lv (.int y :: .int x :: st) σ ↔ Y116 d Q 87 lv (.int (x + y) :: st) σ := yX_at (.iadd, 1, 0, 0, 0, 0, []) rfl
theorem g116_87  : Y116 d Q 87 lv st σ ↔ Y116 d Q 88 lv (.int 0 :: st) σ := yX_at (.iconst 0, 1, 0, 0, 0, 0, []) rfl
theorem g116_88 {x j : Int32} {c : Nat} : Y116 d Q 88 lv (.int x :: .int j :: .ref c :: st) σ ↔ (zK c = 100 ∧ vp_in j (zLn c)) ∧ Y116 d Q 89 lv st (zwI σ c j.toNatClampNeg x) := yX_at (.iastore, 1, 0, 0, 0, 0, []) rfl
theorem g116_89  : Y116 d Q 89 lv st σ ↔ zldR lv 0 (fun x => Y116 d Q 90 lv (.ref x :: st) σ) := yX_at (.aload_n 0, 1, 0, 0, 0, 0, []) rfl
theorem g116_90 {c : Nat} : Y116 d Q 90 lv (.ref c :: st) σ ↔ zK c = 7 ∧ Y116 d Q 93 lv (zfv σ c 0 :: st) σ := yX_at (.getfield 7, 3, 7, 0, 220, 0, []) rfl
theorem g116_93  : Y116 d Q 93 lv st σ ↔ Y116 d Q 95 lv (.int 43 :: st) σ := yX_at (.bipush 43, 2, 0, 0, 0, 0, []) rfl
theorem g116_95 {j : Int32} {c : Nat} : Y116 d Q 95 lv (.int j :: .ref c :: st) σ ↔ (zK c = 100 ∧ vp_in j (zLn c)) ∧ Y116 d Q 96 lv (.int (σ.1 c j.toNatClampNeg) :: st) σ := yX_at (.iaload, 1, 0, 0, 0, 0, []) rfl
theorem g116_96 {x : Int32} : Y116 d Q 96 lv [.int x] σ ↔ Q (some (.int x)) σ := yX_at (.ireturn, 1, 0, 0, 0, 0, []) rfl
theorem g116_97  : Y116 d Q 97 lv st σ ↔ zldI lv 2 (fun x => Y116 d Q 98 lv (.int x :: st) σ) := yX_at (.iload_n 2, 1, 0, 0, 0, 0, []) rfl
theorem g116_98  : Y116 d Q 98 lv st σ ↔ Y116 d Q 99 lv (.int 3 :: st) σ := yX_at (.iconst 3, 1, 0, 0, 0, 0, []) rfl
theorem g116_99 {x y : Int32} : Y116 d Q 99 lv (.int y :: .int x :: st) σ ↔ (¬ x = y → Y116 d Q 112 lv st σ) ∧ (x = y → Y116 d Q 102 lv st σ) := yX_at (.if_icmp .ne 13, 3, 112, 0, 0, 0, []) rfl
theorem g116_102  : Y116 d Q 102 lv st σ ↔ zldR lv 0 (fun x => Y116 d Q 103 lv (.ref x :: st) σ) := yX_at (.aload_n 0, 1, 0, 0, 0, 0, []) rfl
theorem g116_103  : Y116 d Q 103 lv st σ ↔ zldR lv 0 (fun x => Y116 d Q 104 lv (.ref x :: st) σ) := yX_at (.aload_n 0, 1, 0, 0, 0, 0, []) rfl
theorem g116_104  : Y116 d Q 104 lv st σ ↔ zldI lv 3 (fun x => Y116 d Q 105 lv (.int x :: st) σ) := yX_at (.iload_n 3, 1, 0, 0, 0, 0, []) rfl
theorem g116_105 {v0 : Value} {c : Nat} : Y116 d Q 105 lv (v0 :: .ref c :: st) σ ↔ (zrcv 7 c ∧ zrm st) ∧ ∃ rv σ', yE d 105 [.ref c, v0] σ rv σ' ∧ Y116 d Q 108 lv (rv.toList ++ st) σ' := yX_at (.invokevirtual 147, 3, 105, 1, 226, 0, []) rfl
theorem g116_108  : Y116 d Q 108 lv st σ ↔ zldI lv 3 (fun x => Y116 d Q 109 lv (.int x :: st) σ) := yX_at (.iload_n 3, 1, 0, 0, 0, 0, []) rfl
theorem g116_109 {v0 v1 : Value} {c : Nat} : Y116 d Q 109 lv (v1 :: v0 :: .ref c :: st) σ ↔ (zrcv 7 c ∧ zrm st) ∧ ∃ rv σ', yE d 110 [.ref c, v0, v1] σ rv σ' ∧ Y116 d Q 112 lv (rv.toList ++ st) σ' := yX_at (.invokevirtual 162, 3, 110, 2, 230, 0, []) rfl
theorem g116_112  : Y116 d Q 112 lv st σ ↔ zldR lv 0 (fun x => Y116 d Q 113 lv (.ref x :: st) σ) := yX_at (.aload_n 0, 1, 0, 0, 0, 0, []) rfl
theorem g116_113  : Y116 d Q 113 lv st σ ↔ zldR lv 0 (fun x => Y116 d Q 114 lv (.ref x :: st) σ) := yX_at (.aload_n 0, 1, 0, 0, 0, 0, []) rfl
theorem g116_114 {c : Nat} : Y116 d Q 114 lv (.ref c :: st) σ ↔ zK c = 7 ∧ Y116 d Q 117 lv (zfv σ c 0 :: st) σ := yX_at (.getfield 7, 3, 7, 0, 220, 0, []) rfl
theorem g116_117  : Y116 d Q 117 lv st σ ↔ zldI lv 1 (fun x => Y116 d Q 118 lv (.int x :: st) σ) := yX_at (.iload_n 1, 1, 0, 0, 0, 0, []) rfl
theorem g116_118  : Y116 d Q 118 lv st σ ↔ Y116 d Q 119 lv (.int 2 :: st) σ := yX_at (.iconst 2, 1, 0, 0, 0, 0, []) rfl
theorem g116_119 {x y : Int32} : Y116 d Q 119 lv (.int y :: .int x :: st) σ ↔ Y116 d Q 120 lv (.int (x + y) :: st) σ := yX_at (.iadd, 1, 0, 0, 0, 0, []) rfl
theorem g116_120 {j : Int32} {c : Nat} : Y116 d Q 120 lv (.int j :: .ref c :: st) σ ↔ (zK c = 100 ∧ vp_in j (zLn c)) ∧ Y116 d Q 121 lv (.int (σ.1 c j.toNatClampNeg) :: st) σ := yX_at (.iaload, 1, 0, 0, 0, 0, []) rfl
theorem g116_121  : Y116 d Q 121 lv st σ ↔ zldR lv 0 (fun x => Y116 d Q 122 lv (.ref x :: st) σ) := yX_at (.aload_n 0, 1, 0, 0, 0, 0, []) rfl
theorem g116_122 {c : Nat} : Y116 d Q 122 lv (.ref c :: st) σ ↔ zK c = 7 ∧ Y116 d Q 125 lv (zfv σ c 0 :: st) σ := yX_at (.getfield 7, 3, 7, 0, 220, 0, []) rfl
theorem g116_125  : Y116 d Q 125 lv st σ ↔ zldI lv 1 (fun x => Y116 d Q 126 lv (.int x :: st) σ) := yX_at (.iload_n 1, 1, 0, 0, 0, 0, []) rfl
theorem g116_126  : Y116 d Q 126 lv st σ ↔ Y116 d Q 127 lv (.int 3 :: st) σ := yX_at (.iconst 3, 1, 0, 0, 0, 0, []) rfl
theorem g116_127 {x y : Int32} : Y116 d Q 127 lv (.int y :: .int x :: st) σ ↔ Y116 d Q 128 lv (.int (x + y) :: st) σ := yX_at (.iadd, 1, 0, 0, 0, 0, []) rfl
theorem g116_128 {j : Int32} {c : Nat} : Y116 d Q 128 lv (.int j :: .ref c :: st) σ ↔ (zK c = 100 ∧ vp_in j (zLn c)) ∧ Y116 d Q 129 lv (.int (σ.1 c j.toNatClampNeg) :: st) σ := yX_at (.iaload, 1, 0, 0, 0, 0, []) rfl
theorem g116_129  : Y116 d Q 129 lv st σ ↔ zldI lv 3 (fun x => Y116 d Q 130 lv (.int x :: st) σ) := yX_at (.iload_n 3, 1, 0, 0, 0, 0, []) rfl
theorem g116_130 {v0 v1 v2 : Value} {c : Nat} : Y116 d Q 130 lv (v2 :: v1 :: v0 :: .ref c :: st) σ ↔ (zrcv 7 c ∧ zrm st) ∧ ∃ rv σ', yE d 108 [.ref c, v0, v1, v2] σ rv σ' ∧ Y116 d Q 133 lv (rv.toList ++ st) σ' := yX_at (.invokevirtual 154, 3, 108, 3, 228, 0, []) rfl
theorem g116_133  : Y116 d Q 133 lv st σ ↔ zldR lv 0 (fun x => Y116 d Q 134 lv (.ref x :: st) σ) := yX_at (.aload_n 0, 1, 0, 0, 0, 0, []) rfl
theorem g116_134 {c : Nat} : Y116 d Q 134 lv (.ref c :: st) σ ↔ zK c = 7 ∧ Y116 d Q 137 lv (zfv σ c 0 :: st) σ := yX_at (.getfield 7, 3, 7, 0, 220, 0, []) rfl
theorem g116_137  : Y116 d Q 137 lv st σ ↔ Y116 d Q 138 lv (.int 2 :: st) σ := yX_at (.iconst 2, 1, 0, 0, 0, 0, []) rfl
theorem g116_138  : Y116 d Q 138 lv st σ ↔ zdup2 st (fun r => Y116 d Q 139 lv r σ) := yX_at (.dup2, 1, 0, 0, 0, 0, []) rfl
theorem g116_139 {j : Int32} {c : Nat} : Y116 d Q 139 lv (.int j :: .ref c :: st) σ ↔ (zK c = 100 ∧ vp_in j (zLn c)) ∧ Y116 d Q 140 lv (.int (σ.1 c j.toNatClampNeg) :: st) σ := yX_at (.iaload, 1, 0, 0, 0, 0, []) rfl
theorem g116_140  : Y116 d Q 140 lv st σ ↔ zldI lv 2 (fun x => Y116 d Q 141 lv (.int x :: st) σ) := yX_at (.iload_n 2, 1, 0, 0, 0, 0, []) rfl
theorem g116_141  : Y116 d Q 141 lv st σ ↔ Y116 d Q 142 lv (.int 2 :: st) σ := yX_at (.iconst 2, 1, 0, 0, 0, 0, []) rfl
theorem g116_142 {x y : Int32} : Y116 d Q 142 lv (.int y :: .int x :: st) σ ↔ (¬ x = y → Y116 d Q 158 lv st σ) ∧ (x = y → Y116 d Q 145 lv st σ) := yX_at (.if_icmp .ne 16, 3, 158, 0, 0, 0, []) rfl
theorem g116_145  : Y116 d Q 145 lv st σ ↔ zldR lv 0 (fun x => Y116 d Q 146 lv (.ref x :: st) σ) := yX_at (.aload_n 0, 1, 0, 0, 0, 0, []) rfl
theorem g116_146 {c : Nat} : Y116 d Q 146 lv (.ref c :: st) σ ↔ zK c = 7 ∧ Y116 d Q 149 lv (zfv σ c 7 :: st) σ := yX_at (.getfield 26, 3, 7, 7, 217, 0, []) rfl
theorem g116_149  : Y116 d Q 149 lv st σ ↔ Y116 d Q 150 lv (.int 5 :: st) σ := yX_at (.iconst 5, 1, 0, 0, 0, 0, []) rfl
theorem g116_150  : Y116 d Q 150 lv st σ ↔ zldI lv 3 (fun x => Y116 d Q 151 lv (.int x :: st) σ) := yX_at (.iload_n 3, 1, 0, 0, 0, 0, []) rfl
theorem g116_151 {x y : Int32} : Y116 d Q 151 lv (.int y :: .int x :: st) σ ↔ Y116 d Q 152 lv (.int (x * y) :: st) σ := yX_at (.imul, 1, 0, 0, 0, 0, []) rfl
theorem g116_152  : Y116 d Q 152 lv st σ ↔ Y116 d Q 153 lv (.int 3 :: st) σ := yX_at (.iconst 3, 1, 0, 0, 0, 0, []) rfl
theorem g116_153 {x y : Int32} : Y116 d Q 153 lv (.int y :: .int x :: st) σ ↔ Y116 d Q 154 lv (.int (x + y) :: st) σ := yX_at (.iadd, 1, 0, 0, 0, 0, []) rfl
theorem g116_154 {j : Int32} {c : Nat} : Y116 d Q 154 lv (.int j :: .ref c :: st) σ ↔ (zK c = 100 ∧ vp_in j (zLn c)) ∧ Y116 d Q 155 lv (.int (σ.1 c j.toNatClampNeg) :: st) σ := yX_at (.iaload, 1, 0, 0, 0, 0, []) rfl
theorem g116_155  : Y116 d Q 155 lv st σ ↔ Y116 d Q 159 lv st σ := yX_at (.goto 4, 3, 159, 0, 0, 0, []) rfl
theorem g116_158  : Y116 d Q 158 lv st σ ↔ Y116 d Q 159 lv (.int 0 :: st) σ := yX_at (.iconst 0, 1, 0, 0, 0, 0, []) rfl
theorem g116_159 {x y : Int32} : Y116 d Q 159 lv (.int y :: .int x :: st) σ ↔ Y116 d Q 160 lv (.int (x - y) :: st) σ := yX_at (.isub, 1, 0, 0, 0, 0, []) rfl
theorem g116_160 {x j : Int32} {c : Nat} : Y116 d Q 160 lv (.int x :: .int j :: .ref c :: st) σ ↔ (zK c = 100 ∧ vp_in j (zLn c)) ∧ Y116 d Q 161 lv st (zwI σ c j.toNatClampNeg x) := yX_at (.iastore, 1, 0, 0, 0, 0, []) rfl
theorem g116_161  : Y116 d Q 161 lv st σ ↔ zldR lv 0 (fun x => Y116 d Q 162 lv (.ref x :: st) σ) := yX_at (.aload_n 0, 1, 0, 0, 0, 0, []) rfl
set_option maxRecDepth 20000 in
theorem g116_162 {c : Nat} : Y116 d Q 162 lv (.ref c :: st) σ ↔ zK c = 7 ∧ Y116 d Q 165 lv (zfv σ c 0 :: st) σ := yX_at (.getfield 7, 3, 7, 0, 220, 0, []) rfl
set_option maxRecDepth 20000 in
theorem g116_165  : Y116 d Q 165 lv st σ ↔ Y116 d Q 167 lv (.int 43 :: st) σ := yX_at (.bipush 43, 2, 0, 0, 0, 0, []) rfl
set_option maxRecDepth 20000 in
theorem g116_167 {j : Int32} {c : Nat} : Y116 d Q 167 lv (.int j :: .ref c :: st) σ ↔ (zK c = 100 ∧ vp_in j (zLn c)) ∧ Y116 d Q 168 lv (.int (σ.1 c j.toNatClampNeg) :: st) σ := yX_at (.iaload, 1, 0, 0, 0, 0, []) rfl
set_option maxRecDepth 20000 in
theorem g116_168 {x : Int32} : Y116 d Q 168 lv [.int x] σ ↔ Q (some (.int x)) σ := yX_at (.ireturn, 1, 0, 0, 0, 0, []) rfl
end G116
def Y117 (d : Nat) (Q : Option Value → zSt → Prop) (pc : Nat) (lv : zLv) (st : List Value) (σ : zSt) : Prop := yX (yE d) ySn zt117 Q pc lv st σ
theorem C117 {d : Nat} {as : List Value} {σ : zSt} {P : Option Value → zSt → Prop} (hl : (lg_sl as).length ≤ 4) (h : Y117 d P 0 (lv_args 0 as) [] σ) : yC (d + 1) 117 as σ P := yC_of (by decide) hl h
section G117
variable {d : Nat} {Q : Option Value → zSt → Prop} {lv : zLv} {st : List Value} {σ : zSt}
theorem g117_0  : Y117 d Q 0 lv st σ ↔ Y117 d Q 1 lv (.int 1 :: st) σ := yX_at (.iconst 1, 1, 0, 0, 0, 0, []) rfl
theorem g117_1 {x : Int32} : Y117 d Q 1 lv (.int x :: st) σ ↔ Y117 d Q 2 (zs1 2 (.int x) lv) st σ := yX_at (.istore_n 2, 1, 0, 0, 0, 0, []) rfl
theorem g117_2  : Y117 d Q 2 lv st σ ↔ Y117 d Q 3 lv (.int 0 :: st) σ := yX_at (.iconst 0, 1, 0, 0, 0, 0, []) rfl
theorem g117_3 {x : Int32} : Y117 d Q 3 lv (.int x :: st) σ ↔ Y117 d Q 4 (zs1 3 (.int x) lv) st σ := yX_at (.istore_n 3, 1, 0, 0, 0, 0, []) rfl
theorem g117_4  : Y117 d Q 4 lv st σ ↔ zldI lv 3 (fun x => Y117 d Q 5 lv (.int x :: st) σ) := yX_at (.iload_n 3, 1, 0, 0, 0, 0, []) rfl
theorem g117_5  : Y117 d Q 5 lv st σ ↔ zldR lv 0 (fun x => Y117 d Q 6 lv (.ref x :: st) σ) := yX_at (.aload_n 0, 1, 0, 0, 0, 0, []) rfl
theorem g117_6 {c : Nat} : Y117 d Q 6 lv (.ref c :: st) σ ↔ zK c = 7 ∧ Y117 d Q 9 lv (zfv σ c 8 :: st) σ := yX_at (.getfield 133, 3, 7, 8, 218, 0, []) rfl
theorem g117_9 {x y : Int32} : Y117 d Q 9 lv (.int y :: .int x :: st) σ ↔ (y ≤ x → Y117 d Q 61 lv st σ) ∧ (¬ y ≤ x → Y117 d Q 12 lv st σ) := yX_at (.if_icmp .ge 52, 3, 61, 0, 0, 0, []) rfl
theorem g117_12  : Y117 d Q 12 lv st σ ↔ zldI lv 2 (fun x => Y117 d Q 13 lv (.int x :: st) σ) := yX_at (.iload_n 2, 1, 0, 0, 0, 0, []) rfl
theorem g117_13 {x : Int32} : Y117 d Q 13 lv (.int x :: st) σ ↔ (x = 0 → Y117 d Q 53 lv st σ) ∧ (¬ x = 0 → Y117 d Q 16 lv st σ) := yX_at (.ifCond .eq 40, 3, 53, 0, 0, 0, []) rfl
theorem g117_16  : Y117 d Q 16 lv st σ ↔ zldR lv 0 (fun x => Y117 d Q 17 lv (.ref x :: st) σ) := yX_at (.aload_n 0, 1, 0, 0, 0, 0, []) rfl
theorem g117_17 {c : Nat} : Y117 d Q 17 lv (.ref c :: st) σ ↔ zK c = 7 ∧ Y117 d Q 20 lv (zfv σ c 9 :: st) σ := yX_at (.getfield 29, 3, 7, 9, 219, 0, []) rfl
theorem g117_20  : Y117 d Q 20 lv st σ ↔ Y117 d Q 21 lv (.int 2 :: st) σ := yX_at (.iconst 2, 1, 0, 0, 0, 0, []) rfl
theorem g117_21  : Y117 d Q 21 lv st σ ↔ zldI lv 3 (fun x => Y117 d Q 22 lv (.int x :: st) σ) := yX_at (.iload_n 3, 1, 0, 0, 0, 0, []) rfl
theorem g117_22 {x y : Int32} : Y117 d Q 22 lv (.int y :: .int x :: st) σ ↔ Y117 d Q 23 lv (.int (x * y) :: st) σ := yX_at (.imul, 1, 0, 0, 0, 0, []) rfl
theorem g117_23 {j : Int32} {c : Nat} : Y117 d Q 23 lv (.int j :: .ref c :: st) σ ↔ (zK c = 100 ∧ vp_in j (zLn c)) ∧ Y117 d Q 24 lv (.int (σ.1 c j.toNatClampNeg) :: st) σ := yX_at (.iaload, 1, 0, 0, 0, 0, []) rfl
theorem g117_24  : Y117 d Q 24 lv st σ ↔ zldI lv 1 (fun x => Y117 d Q 25 lv (.int x :: st) σ) := yX_at (.iload_n 1, 1, 0, 0, 0, 0, []) rfl
theorem g117_25 {x y : Int32} : Y117 d Q 25 lv (.int y :: .int x :: st) σ ↔ (¬ x = y → Y117 d Q 49 lv st σ) ∧ (x = y → Y117 d Q 28 lv st σ) := yX_at (.if_icmp .ne 24, 3, 49, 0, 0, 0, []) rfl
theorem g117_28  : Y117 d Q 28 lv st σ ↔ zldR lv 0 (fun x => Y117 d Q 29 lv (.ref x :: st) σ) := yX_at (.aload_n 0, 1, 0, 0, 0, 0, []) rfl
theorem g117_29 {c : Nat} : Y117 d Q 29 lv (.ref c :: st) σ ↔ zK c = 7 ∧ Y117 d Q 32 lv (zfv σ c 0 :: st) σ := yX_at (.getfield 7, 3, 7, 0, 220, 0, []) rfl
theorem g117_32  : Y117 d Q 32 lv st σ ↔ Y117 d Q 33 lv (.int 3 :: st) σ := yX_at (.iconst 3, 1, 0, 0, 0, 0, []) rfl
theorem g117_33  : Y117 d Q 33 lv st σ ↔ zldR lv 0 (fun x => Y117 d Q 34 lv (.ref x :: st) σ) := yX_at (.aload_n 0, 1, 0, 0, 0, 0, []) rfl
theorem g117_34 {c : Nat} : Y117 d Q 34 lv (.ref c :: st) σ ↔ zK c = 7 ∧ Y117 d Q 37 lv (zfv σ c 9 :: st) σ := yX_at (.getfield 29, 3, 7, 9, 219, 0, []) rfl
theorem g117_37  : Y117 d Q 37 lv st σ ↔ Y117 d Q 38 lv (.int 2 :: st) σ := yX_at (.iconst 2, 1, 0, 0, 0, 0, []) rfl
theorem g117_38  : Y117 d Q 38 lv st σ ↔ zldI lv 3 (fun x => Y117 d Q 39 lv (.int x :: st) σ) := yX_at (.iload_n 3, 1, 0, 0, 0, 0, []) rfl
theorem g117_39 {x y : Int32} : Y117 d Q 39 lv (.int y :: .int x :: st) σ ↔ Y117 d Q 40 lv (.int (x * y) :: st) σ := yX_at (.imul, 1, 0, 0, 0, 0, []) rfl
theorem g117_40  : Y117 d Q 40 lv st σ ↔ Y117 d Q 41 lv (.int 1 :: st) σ := yX_at (.iconst 1, 1, 0, 0, 0, 0, []) rfl
theorem g117_41 {x y : Int32} : Y117 d Q 41 lv (.int y :: .int x :: st) σ ↔ Y117 d Q 42 lv (.int (x + y) :: st) σ := yX_at (.iadd, 1, 0, 0, 0, 0, []) rfl
theorem g117_42 {j : Int32} {c : Nat} : Y117 d Q 42 lv (.int j :: .ref c :: st) σ ↔ (zK c = 100 ∧ vp_in j (zLn c)) ∧ Y117 d Q 43 lv (.int (σ.1 c j.toNatClampNeg) :: st) σ := yX_at (.iaload, 1, 0, 0, 0, 0, []) rfl
theorem g117_43 {x y : Int32} : Y117 d Q 43 lv (.int y :: .int x :: st) σ ↔ Y117 d Q 44 lv (.int (x + y) :: st) σ := yX_at (.iadd, 1, 0, 0, 0, 0, []) rfl
theorem g117_44 {j : Int32} {c : Nat} : Y117 d Q 44 lv (.int j :: .ref c :: st) σ ↔ (zK c = 100 ∧ vp_in j (zLn c)) ∧ Y117 d Q 45 lv (.int (σ.1 c j.toNatClampNeg) :: st) σ := yX_at (.iaload, 1, 0, 0, 0, 0, []) rfl
theorem g117_45  : Y117 d Q 45 lv st σ ↔ Y117 d Q 46 lv (.int 2 :: st) σ := yX_at (.iconst 2, 1, 0, 0, 0, 0, []) rfl
theorem g117_46 {x y : Int32} : Y117 d Q 46 lv (.int y :: .int x :: st) σ ↔ (¬ x = y → Y117 d Q 53 lv st σ) ∧ (x = y → Y117 d Q 49 lv st σ) := yX_at (.if_icmp .ne 7, 3, 53, 0, 0, 0, []) rfl
theorem g117_49  : Y117 d Q 49 lv st σ ↔ Y117 d Q 50 lv (.int 1 :: st) σ := yX_at (.iconst 1, 1, 0, 0, 0, 0, []) rfl
theorem g117_50  : Y117 d Q 50 lv st σ ↔ Y117 d Q 54 lv st σ := yX_at (.goto 4, 3, 54, 0, 0, 0, []) rfl
theorem g117_53  : Y117 d Q 53 lv st σ ↔ Y117 d Q 54 lv (.int 0 :: st) σ := yX_at (.iconst 0, 1, 0, 0, 0, 0, []) rfl
theorem g117_54 {x : Int32} : Y117 d Q 54 lv (.int x :: st) σ ↔ Y117 d Q 55 (zs1 2 (.int x) lv) st σ := yX_at (.istore_n 2, 1, 0, 0, 0, 0, []) rfl
theorem g117_55  : Y117 d Q 55 lv st σ ↔ zldI lv 3 (fun x => Y117 d Q 58 (zs1 3 (.int (x + 1)) lv) st σ) := yX_at (.iinc 3 1, 3, 0, 0, 0, 0, []) rfl
theorem g117_58  : Y117 d Q 58 lv st σ ↔ Y117 d Q 4 lv st σ := yX_at (.goto (-54), 3, 4, 0, 0, 0, []) rfl
theorem g117_61  : Y117 d Q 61 lv st σ ↔ zldI lv 2 (fun x => Y117 d Q 62 lv (.int x :: st) σ) := yX_at (.iload_n 2, 1, 0, 0, 0, 0, []) rfl
theorem g117_62 {x : Int32} : Y117 d Q 62 lv [.int x] σ ↔ (x = 0 ∨ x = 1) ∧ Q (some (.int x)) σ := yX_at (.ireturn, 1, 1, 0, 0, 0, []) rfl
end G117
def Y118 (d : Nat) (Q : Option Value → zSt → Prop) (pc : Nat) (lv : zLv) (st : List Value) (σ : zSt) : Prop := yX (yE d) ySn zt118 Q pc lv st σ
theorem C118 {d : Nat} {as : List Value} {σ : zSt} {P : Option Value → zSt → Prop} (hl : (lg_sl as).length ≤ 3) (h : Y118 d P 0 (lv_args 0 as) [] σ) : yC (d + 1) 118 as σ P := yC_of (by decide) hl h
section G118
variable {d : Nat} {Q : Option Value → zSt → Prop} {lv : zLv} {st : List Value} {σ : zSt}
theorem g118_0  : Y118 d Q 0 lv st σ ↔ Y118 d Q 1 lv (.int 0 :: st) σ := yX_at (.iconst 0, 1, 0, 0, 0, 0, []) rfl
theorem g118_1 {x : Int32} : Y118 d Q 1 lv (.int x :: st) σ ↔ Y118 d Q 2 (zs1 2 (.int x) lv) st σ := yX_at (.istore_n 2, 1, 0, 0, 0, 0, []) rfl
theorem g118_2  : Y118 d Q 2 lv st σ ↔ zldI lv 2 (fun x => Y118 d Q 3 lv (.int x :: st) σ) := yX_at (.iload_n 2, 1, 0, 0, 0, 0, []) rfl
theorem g118_3  : Y118 d Q 3 lv st σ ↔ zldR lv 0 (fun x => Y118 d Q 4 lv (.ref x :: st) σ) := yX_at (.aload_n 0, 1, 0, 0, 0, 0, []) rfl
theorem g118_4 {c : Nat} : Y118 d Q 4 lv (.ref c :: st) σ ↔ zK c = 7 ∧ Y118 d Q 7 lv (zfv σ c 0 :: st) σ := yX_at (.getfield 7, 3, 7, 0, 220, 0, []) rfl
theorem g118_7  : Y118 d Q 7 lv st σ ↔ Y118 d Q 9 lv (.int 19 :: st) σ := yX_at (.bipush 19, 2, 0, 0, 0, 0, []) rfl
theorem g118_9  : Y118 d Q 9 lv st σ ↔ zldI lv 1 (fun x => Y118 d Q 10 lv (.int x :: st) σ) := yX_at (.iload_n 1, 1, 0, 0, 0, 0, []) rfl
theorem g118_10 {x y : Int32} : Y118 d Q 10 lv (.int y :: .int x :: st) σ ↔ Y118 d Q 11 lv (.int (x + y) :: st) σ := yX_at (.iadd, 1, 0, 0, 0, 0, []) rfl
theorem g118_11 {j : Int32} {c : Nat} : Y118 d Q 11 lv (.int j :: .ref c :: st) σ ↔ (zK c = 100 ∧ vp_in j (zLn c)) ∧ Y118 d Q 12 lv (.int (σ.1 c j.toNatClampNeg) :: st) σ := yX_at (.iaload, 1, 0, 0, 0, 0, []) rfl
theorem g118_12 {x y : Int32} : Y118 d Q 12 lv (.int y :: .int x :: st) σ ↔ (y ≤ x → Y118 d Q 55 lv st σ) ∧ (¬ y ≤ x → Y118 d Q 15 lv st σ) := yX_at (.if_icmp .ge 43, 3, 55, 0, 0, 0, []) rfl
theorem g118_15  : Y118 d Q 15 lv st σ ↔ zldR lv 0 (fun x => Y118 d Q 16 lv (.ref x :: st) σ) := yX_at (.aload_n 0, 1, 0, 0, 0, 0, []) rfl
theorem g118_16  : Y118 d Q 16 lv st σ ↔ zldR lv 0 (fun x => Y118 d Q 17 lv (.ref x :: st) σ) := yX_at (.aload_n 0, 1, 0, 0, 0, 0, []) rfl
theorem g118_17 {c : Nat} : Y118 d Q 17 lv (.ref c :: st) σ ↔ zK c = 7 ∧ Y118 d Q 20 lv (zfv σ c 0 :: st) σ := yX_at (.getfield 7, 3, 7, 0, 220, 0, []) rfl
theorem g118_20  : Y118 d Q 20 lv st σ ↔ Y118 d Q 22 lv (.int 23 :: st) σ := yX_at (.bipush 23, 2, 0, 0, 0, 0, []) rfl
theorem g118_22  : Y118 d Q 22 lv st σ ↔ Y118 d Q 23 lv (.int 5 :: st) σ := yX_at (.iconst 5, 1, 0, 0, 0, 0, []) rfl
theorem g118_23  : Y118 d Q 23 lv st σ ↔ zldI lv 1 (fun x => Y118 d Q 24 lv (.int x :: st) σ) := yX_at (.iload_n 1, 1, 0, 0, 0, 0, []) rfl
theorem g118_24 {x y : Int32} : Y118 d Q 24 lv (.int y :: .int x :: st) σ ↔ Y118 d Q 25 lv (.int (x * y) :: st) σ := yX_at (.imul, 1, 0, 0, 0, 0, []) rfl
theorem g118_25 {x y : Int32} : Y118 d Q 25 lv (.int y :: .int x :: st) σ ↔ Y118 d Q 26 lv (.int (x + y) :: st) σ := yX_at (.iadd, 1, 0, 0, 0, 0, []) rfl
theorem g118_26  : Y118 d Q 26 lv st σ ↔ zldI lv 2 (fun x => Y118 d Q 27 lv (.int x :: st) σ) := yX_at (.iload_n 2, 1, 0, 0, 0, 0, []) rfl
theorem g118_27 {x y : Int32} : Y118 d Q 27 lv (.int y :: .int x :: st) σ ↔ Y118 d Q 28 lv (.int (x + y) :: st) σ := yX_at (.iadd, 1, 0, 0, 0, 0, []) rfl
theorem g118_28 {j : Int32} {c : Nat} : Y118 d Q 28 lv (.int j :: .ref c :: st) σ ↔ (zK c = 100 ∧ vp_in j (zLn c)) ∧ Y118 d Q 29 lv (.int (σ.1 c j.toNatClampNeg) :: st) σ := yX_at (.iaload, 1, 0, 0, 0, 0, []) rfl
theorem g118_29 {v0 : Value} {c : Nat} : Y118 d Q 29 lv (v0 :: .ref c :: st) σ ↔ (zrcv 7 c ∧ zrm st) ∧ ∃ rv σ', yE d 117 [.ref c, v0] σ rv σ' ∧ Y118 d Q 32 lv (rv.toList ++ st) σ' := yX_at (.invokevirtual 166, 3, 117, 1, 231, 0, []) rfl
theorem g118_32 {x : Int32} : Y118 d Q 32 lv (.int x :: st) σ ↔ (x = 0 → Y118 d Q 49 lv st σ) ∧ (¬ x = 0 → Y118 d Q 35 lv st σ) := yX_at (.ifCond .eq 17, 3, 49, 0, 0, 0, []) rfl
theorem g118_35  : Y118 d Q 35 lv st σ ↔ zldR lv 0 (fun x => Y118 d Q 36 lv (.ref x :: st) σ) := yX_at (.aload_n 0, 1, 0, 0, 0, 0, []) rfl
theorem g118_36 {c : Nat} : Y118 d Q 36 lv (.ref c :: st) σ ↔ zK c = 7 ∧ Y118 d Q 39 lv (zfv σ c 0 :: st) σ := yX_at (.getfield 7, 3, 7, 0, 220, 0, []) rfl
theorem g118_39  : Y118 d Q 39 lv st σ ↔ Y118 d Q 41 lv (.int 23 :: st) σ := yX_at (.bipush 23, 2, 0, 0, 0, 0, []) rfl
theorem g118_41  : Y118 d Q 41 lv st σ ↔ Y118 d Q 42 lv (.int 5 :: st) σ := yX_at (.iconst 5, 1, 0, 0, 0, 0, []) rfl
theorem g118_42  : Y118 d Q 42 lv st σ ↔ zldI lv 1 (fun x => Y118 d Q 43 lv (.int x :: st) σ) := yX_at (.iload_n 1, 1, 0, 0, 0, 0, []) rfl
theorem g118_43 {x y : Int32} : Y118 d Q 43 lv (.int y :: .int x :: st) σ ↔ Y118 d Q 44 lv (.int (x * y) :: st) σ := yX_at (.imul, 1, 0, 0, 0, 0, []) rfl
theorem g118_44 {x y : Int32} : Y118 d Q 44 lv (.int y :: .int x :: st) σ ↔ Y118 d Q 45 lv (.int (x + y) :: st) σ := yX_at (.iadd, 1, 0, 0, 0, 0, []) rfl
theorem g118_45  : Y118 d Q 45 lv st σ ↔ zldI lv 2 (fun x => Y118 d Q 46 lv (.int x :: st) σ) := yX_at (.iload_n 2, 1, 0, 0, 0, 0, []) rfl
theorem g118_46 {x y : Int32} : Y118 d Q 46 lv (.int y :: .int x :: st) σ ↔ Y118 d Q 47 lv (.int (x + y) :: st) σ := yX_at (.iadd, 1, 0, 0, 0, 0, []) rfl
theorem g118_47 {j : Int32} {c : Nat} : Y118 d Q 47 lv (.int j :: .ref c :: st) σ ↔ (zK c = 100 ∧ vp_in j (zLn c)) ∧ Y118 d Q 48 lv (.int (σ.1 c j.toNatClampNeg) :: st) σ := yX_at (.iaload, 1, 0, 0, 0, 0, []) rfl
theorem g118_48 {x : Int32} : Y118 d Q 48 lv [.int x] σ ↔ Q (some (.int x)) σ := yX_at (.ireturn, 1, 0, 0, 0, 0, []) rfl
theorem g118_49  : Y118 d Q 49 lv st σ ↔ zldI lv 2 (fun x => Y118 d Q 52 (zs1 2 (.int (x + 1)) lv) st σ) := yX_at (.iinc 2 1, 3, 0, 0, 0, 0, []) rfl
theorem g118_52  : Y118 d Q 52 lv st σ ↔ Y118 d Q 2 lv st σ := yX_at (.goto (-50), 3, 2, 0, 0, 0, []) rfl
theorem g118_55  : Y118 d Q 55 lv st σ ↔ Y118 d Q 57 lv (.int (-9) :: st) σ := by
  rw [show (-9 : Int32) = (Int8.ofInt (-9)).toInt32 from by decide]
  exact yX_at (.bipush (-9), 2, 0, 0, 0, 0, []) rfl
theorem g118_57 {x : Int32} : Y118 d Q 57 lv [.int x] σ ↔ Q (some (.int x)) σ := yX_at (.ireturn, 1, 0, 0, 0, 0, []) rfl
end G118
def Y119 (d : Nat) (Q : Option Value → zSt → Prop) (pc : Nat) (lv : zLv) (st : List Value) (σ : zSt) : Prop := yX (yE d) ySn zt119 Q pc lv st σ
theorem C119 {d : Nat} {as : List Value} {σ : zSt} {P : Option Value → zSt → Prop} (hl : (lg_sl as).length ≤ 5) (h : Y119 d P 0 (lv_args 0 as) [] σ) : yC (d + 1) 119 as σ P := yC_of (by decide) hl h
section G119
variable {d : Nat} {Q : Option Value → zSt → Prop} {lv : zLv} {st : List Value} {σ : zSt}
theorem g119_0  : Y119 d Q 0 lv st σ ↔ zldR lv 0 (fun x => Y119 d Q 1 lv (.ref x :: st) σ) := yX_at (.aload_n 0, 1, 0, 0, 0, 0, []) rfl
theorem g119_1 {c : Nat} : Y119 d Q 1 lv (.ref c :: st) σ ↔ zK c = 7 ∧ Y119 d Q 4 lv (zfv σ c 0 :: st) σ := yX_at (.getfield 7, 3, 7, 0, 220, 0, []) rfl
theorem g119_4  : Y119 d Q 4 lv st σ ↔ Y119 d Q 5 lv (.int 0 :: st) σ := yX_at (.iconst 0, 1, 0, 0, 0, 0, []) rfl
theorem g119_5 {j : Int32} {c : Nat} : Y119 d Q 5 lv (.int j :: .ref c :: st) σ ↔ (zK c = 100 ∧ vp_in j (zLn c)) ∧ Y119 d Q 6 lv (.int (σ.1 c j.toNatClampNeg) :: st) σ := yX_at (.iaload, 1, 0, 0, 0, 0, []) rfl
theorem g119_6  : Y119 d Q 6 lv st σ ↔ Y119 d Q 8 lv (.int 10 :: st) σ := yX_at (.bipush 10, 2, 0, 0, 0, 0, []) rfl
theorem g119_8 {x y : Int32} : Y119 d Q 8 lv (.int y :: .int x :: st) σ ↔ (¬ x = y → Y119 d Q 14 lv st σ) ∧ (x = y → Y119 d Q 11 lv st σ) := yX_at (.if_icmp .ne 6, 3, 14, 0, 0, 0, []) rfl
theorem g119_11  : Y119 d Q 11 lv st σ ↔ Y119 d Q 13 lv (.int (-2) :: st) σ := by
  rw [show (-2 : Int32) = (Int8.ofInt (-2)).toInt32 from by decide]
  exact yX_at (.bipush (-2), 2, 0, 0, 0, 0, []) rfl
theorem g119_13 {x : Int32} : Y119 d Q 13 lv [.int x] σ ↔ Q (some (.int x)) σ := yX_at (.ireturn, 1, 0, 0, 0, 0, []) rfl
theorem g119_14  : Y119 d Q 14 lv st σ ↔ Y119 d Q 15 lv (.int 0 :: st) σ := yX_at (.iconst 0, 1, 0, 0, 0, 0, []) rfl
theorem g119_15 {x : Int32} : Y119 d Q 15 lv (.int x :: st) σ ↔ Y119 d Q 16 (zs1 1 (.int x) lv) st σ := yX_at (.istore_n 1, 1, 0, 0, 0, 0, []) rfl
theorem g119_16  : Y119 d Q 16 lv st σ ↔ Y119 d Q 17 lv (.int 0 :: st) σ := yX_at (.iconst 0, 1, 0, 0, 0, 0, []) rfl
theorem g119_17 {x : Int32} : Y119 d Q 17 lv (.int x :: st) σ ↔ Y119 d Q 18 (zs1 2 (.int x) lv) st σ := yX_at (.istore_n 2, 1, 0, 0, 0, 0, []) rfl
theorem g119_18  : Y119 d Q 18 lv st σ ↔ zldI lv 2 (fun x => Y119 d Q 19 lv (.int x :: st) σ) := yX_at (.iload_n 2, 1, 0, 0, 0, 0, []) rfl
theorem g119_19  : Y119 d Q 19 lv st σ ↔ zldR lv 0 (fun x => Y119 d Q 20 lv (.ref x :: st) σ) := yX_at (.aload_n 0, 1, 0, 0, 0, 0, []) rfl
theorem g119_20 {c : Nat} : Y119 d Q 20 lv (.ref c :: st) σ ↔ zK c = 7 ∧ Y119 d Q 23 lv (zfv σ c 2 :: st) σ := yX_at (.getfield 63, 3, 7, 2, 185, 0, []) rfl
theorem g119_23 {x y : Int32} : Y119 d Q 23 lv (.int y :: .int x :: st) σ ↔ (y ≤ x → Y119 d Q 134 lv st σ) ∧ (¬ y ≤ x → Y119 d Q 26 lv st σ) := yX_at (.if_icmp .ge 111, 3, 134, 0, 0, 0, []) rfl
theorem g119_26  : Y119 d Q 26 lv st σ ↔ Y119 d Q 27 lv (.int 0 :: st) σ := yX_at (.iconst 0, 1, 0, 0, 0, 0, []) rfl
theorem g119_27 {x : Int32} : Y119 d Q 27 lv (.int x :: st) σ ↔ Y119 d Q 28 (zs1 3 (.int x) lv) st σ := yX_at (.istore_n 3, 1, 0, 0, 0, 0, []) rfl
theorem g119_28  : Y119 d Q 28 lv st σ ↔ zldI lv 3 (fun x => Y119 d Q 29 lv (.int x :: st) σ) := yX_at (.iload_n 3, 1, 0, 0, 0, 0, []) rfl
theorem g119_29  : Y119 d Q 29 lv st σ ↔ zldR lv 0 (fun x => Y119 d Q 30 lv (.ref x :: st) σ) := yX_at (.aload_n 0, 1, 0, 0, 0, 0, []) rfl
theorem g119_30 {c : Nat} : Y119 d Q 30 lv (.ref c :: st) σ ↔ zK c = 7 ∧ Y119 d Q 33 lv (zfv σ c 4 :: st) σ := yX_at (.getfield 20, 3, 7, 4, 215, 0, []) rfl
theorem g119_33  : Y119 d Q 33 lv st σ ↔ zldI lv 2 (fun x => Y119 d Q 34 lv (.int x :: st) σ) := yX_at (.iload_n 2, 1, 0, 0, 0, 0, []) rfl
theorem g119_34 {j : Int32} {c : Nat} : Y119 d Q 34 lv (.int j :: .ref c :: st) σ ↔ (zK c = 100 ∧ vp_in j (zLn c)) ∧ Y119 d Q 35 lv (.int (σ.1 c j.toNatClampNeg) :: st) σ := yX_at (.iaload, 1, 0, 0, 0, 0, []) rfl
theorem g119_35 {x y : Int32} : Y119 d Q 35 lv (.int y :: .int x :: st) σ ↔ (y ≤ x → Y119 d Q 128 lv st σ) ∧ (¬ y ≤ x → Y119 d Q 38 lv st σ) := yX_at (.if_icmp .ge 93, 3, 128, 0, 0, 0, []) rfl
theorem g119_38  : Y119 d Q 38 lv st σ ↔ zldR lv 0 (fun x => Y119 d Q 39 lv (.ref x :: st) σ) := yX_at (.aload_n 0, 1, 0, 0, 0, 0, []) rfl
theorem g119_39  : Y119 d Q 39 lv st σ ↔ zldI lv 2 (fun x => Y119 d Q 40 lv (.int x :: st) σ) := yX_at (.iload_n 2, 1, 0, 0, 0, 0, []) rfl
theorem g119_40 {v0 : Value} {c : Nat} : Y119 d Q 40 lv (v0 :: .ref c :: st) σ ↔ (zrcv 7 c ∧ zrm st) ∧ ∃ rv σ', yE d 118 [.ref c, v0] σ rv σ' ∧ Y119 d Q 43 lv (rv.toList ++ st) σ' := yX_at (.invokevirtual 169, 3, 118, 1, 232, 0, []) rfl
theorem g119_43 {x : Int32} : Y119 d Q 43 lv (.int x :: st) σ ↔ Y119 d Q 45 (zs1 4 (.int x) lv) st σ := yX_at (.istore 4, 2, 0, 0, 0, 0, []) rfl
theorem g119_45  : Y119 d Q 45 lv st σ ↔ zldI lv 4 (fun x => Y119 d Q 47 lv (.int x :: st) σ) := yX_at (.iload 4, 2, 0, 0, 0, 0, []) rfl
theorem g119_47  : Y119 d Q 47 lv st σ ↔ Y119 d Q 49 lv (.int (-9) :: st) σ := by
  rw [show (-9 : Int32) = (Int8.ofInt (-9)).toInt32 from by decide]
  exact yX_at (.bipush (-9), 2, 0, 0, 0, 0, []) rfl
theorem g119_49 {x y : Int32} : Y119 d Q 49 lv (.int y :: .int x :: st) σ ↔ (¬ x = y → Y119 d Q 55 lv st σ) ∧ (x = y → Y119 d Q 52 lv st σ) := yX_at (.if_icmp .ne 6, 3, 55, 0, 0, 0, []) rfl
theorem g119_52  : Y119 d Q 52 lv st σ ↔ Y119 d Q 128 lv st σ := yX_at (.goto 76, 3, 128, 0, 0, 0, []) rfl
theorem g119_55  : Y119 d Q 55 lv st σ ↔ zldR lv 0 (fun x => Y119 d Q 56 lv (.ref x :: st) σ) := yX_at (.aload_n 0, 1, 0, 0, 0, 0, []) rfl
theorem g119_56 {c : Nat} : Y119 d Q 56 lv (.ref c :: st) σ ↔ zK c = 7 ∧ Y119 d Q 59 lv (zfv σ c 0 :: st) σ := yX_at (.getfield 7, 3, 7, 0, 220, 0, []) rfl
theorem g119_59  : Y119 d Q 59 lv st σ ↔ Y119 d Q 61 lv (.int 11 :: st) σ := yX_at (.bipush 11, 2, 0, 0, 0, 0, []) rfl
theorem g119_61  : Y119 d Q 61 lv st σ ↔ zldI lv 4 (fun x => Y119 d Q 63 lv (.int x :: st) σ) := yX_at (.iload 4, 2, 0, 0, 0, 0, []) rfl
theorem g119_63 {x y : Int32} : Y119 d Q 63 lv (.int y :: .int x :: st) σ ↔ Y119 d Q 64 lv (.int (x + y) :: st) σ := yX_at (.iadd, 1, 0, 0, 0, 0, []) rfl
theorem g119_64  : Y119 d Q 64 lv st σ ↔ zdup2 st (fun r => Y119 d Q 65 lv r σ) := yX_at (.dup2, 1, 0, 0, 0, 0, []) rfl
theorem g119_65 {j : Int32} {c : Nat} : Y119 d Q 65 lv (.int j :: .ref c :: st) σ ↔ (zK c = 100 ∧ vp_in j (zLn c)) ∧ Y119 d Q 66 lv (.int (σ.1 c j.toNatClampNeg) :: st) σ := yX_at (.iaload, 1, 0, 0, 0, 0, []) rfl
theorem g119_66  : Y119 d Q 66 lv st σ ↔ Y119 d Q 67 lv (.int 1 :: st) σ := yX_at (.iconst 1, 1, 0, 0, 0, 0, []) rfl
theorem g119_67 {x y : Int32} : Y119 d Q 67 lv (.int y :: .int x :: st) σ ↔ Y119 d Q 68 lv (.int (x - y) :: st) σ := yX_at (.isub, 1, 0, 0, 0, 0, []) rfl
theorem g119_68 {x j : Int32} {c : Nat} : Y119 d Q 68 lv (.int x :: .int j :: .ref c :: st) σ ↔ (zK c = 100 ∧ vp_in j (zLn c)) ∧ Y119 d Q 69 lv st (zwI σ c j.toNatClampNeg x) := yX_at (.iastore, 1, 0, 0, 0, 0, []) rfl
theorem g119_69  : Y119 d Q 69 lv st σ ↔ zldR lv 0 (fun x => Y119 d Q 70 lv (.ref x :: st) σ) := yX_at (.aload_n 0, 1, 0, 0, 0, 0, []) rfl
theorem g119_70 {c : Nat} : Y119 d Q 70 lv (.ref c :: st) σ ↔ zK c = 7 ∧ Y119 d Q 73 lv (zfv σ c 0 :: st) σ := yX_at (.getfield 7, 3, 7, 0, 220, 0, []) rfl
theorem g119_73  : Y119 d Q 73 lv st σ ↔ Y119 d Q 75 lv (.int 11 :: st) σ := yX_at (.bipush 11, 2, 0, 0, 0, 0, []) rfl
theorem g119_75  : Y119 d Q 75 lv st σ ↔ zldI lv 4 (fun x => Y119 d Q 77 lv (.int x :: st) σ) := yX_at (.iload 4, 2, 0, 0, 0, 0, []) rfl
theorem g119_77 {x y : Int32} : Y119 d Q 77 lv (.int y :: .int x :: st) σ ↔ Y119 d Q 78 lv (.int (x + y) :: st) σ := yX_at (.iadd, 1, 0, 0, 0, 0, []) rfl
theorem g119_78 {j : Int32} {c : Nat} : Y119 d Q 78 lv (.int j :: .ref c :: st) σ ↔ (zK c = 100 ∧ vp_in j (zLn c)) ∧ Y119 d Q 79 lv (.int (σ.1 c j.toNatClampNeg) :: st) σ := yX_at (.iaload, 1, 0, 0, 0, 0, []) rfl
theorem g119_79 {x : Int32} : Y119 d Q 79 lv (.int x :: st) σ ↔ (¬ x = 0 → Y119 d Q 122 lv st σ) ∧ (x = 0 → Y119 d Q 82 lv st σ) := yX_at (.ifCond .ne 43, 3, 122, 0, 0, 0, []) rfl
theorem g119_82  : Y119 d Q 82 lv st σ ↔ zldR lv 0 (fun x => Y119 d Q 83 lv (.ref x :: st) σ) := yX_at (.aload_n 0, 1, 0, 0, 0, 0, []) rfl
theorem g119_83  : Y119 d Q 83 lv st σ ↔ zldI lv 2 (fun x => Y119 d Q 84 lv (.int x :: st) σ) := yX_at (.iload_n 2, 1, 0, 0, 0, 0, []) rfl
theorem g119_84  : Y119 d Q 84 lv st σ ↔ zldI lv 4 (fun x => Y119 d Q 86 lv (.int x :: st) σ) := yX_at (.iload 4, 2, 0, 0, 0, 0, []) rfl
theorem g119_86 {v0 v1 : Value} {c : Nat} : Y119 d Q 86 lv (v1 :: v0 :: .ref c :: st) σ ↔ (zrcv 7 c ∧ zrm st) ∧ ∃ rv σ', yE d 110 [.ref c, v0, v1] σ rv σ' ∧ Y119 d Q 89 lv (rv.toList ++ st) σ' := yX_at (.invokevirtual 162, 3, 110, 2, 230, 0, []) rfl
theorem g119_89  : Y119 d Q 89 lv st σ ↔ zldR lv 0 (fun x => Y119 d Q 90 lv (.ref x :: st) σ) := yX_at (.aload_n 0, 1, 0, 0, 0, 0, []) rfl
theorem g119_90 {c : Nat} : Y119 d Q 90 lv (.ref c :: st) σ ↔ zK c = 7 ∧ Y119 d Q 93 lv (zfv σ c 0 :: st) σ := yX_at (.getfield 7, 3, 7, 0, 220, 0, []) rfl
theorem g119_93  : Y119 d Q 93 lv st σ ↔ Y119 d Q 94 lv (.int 3 :: st) σ := yX_at (.iconst 3, 1, 0, 0, 0, 0, []) rfl
theorem g119_94  : Y119 d Q 94 lv st σ ↔ zldI lv 4 (fun x => Y119 d Q 96 lv (.int x :: st) σ) := yX_at (.iload 4, 2, 0, 0, 0, 0, []) rfl
theorem g119_96 {x y : Int32} : Y119 d Q 96 lv (.int y :: .int x :: st) σ ↔ Y119 d Q 97 lv (.int (x + y) :: st) σ := yX_at (.iadd, 1, 0, 0, 0, 0, []) rfl
theorem g119_97  : Y119 d Q 97 lv st σ ↔ Y119 d Q 98 lv (.int 2 :: st) σ := yX_at (.iconst 2, 1, 0, 0, 0, 0, []) rfl
theorem g119_98 {x j : Int32} {c : Nat} : Y119 d Q 98 lv (.int x :: .int j :: .ref c :: st) σ ↔ (zK c = 100 ∧ vp_in j (zLn c)) ∧ Y119 d Q 99 lv st (zwI σ c j.toNatClampNeg x) := yX_at (.iastore, 1, 0, 0, 0, 0, []) rfl
theorem g119_99  : Y119 d Q 99 lv st σ ↔ zldR lv 0 (fun x => Y119 d Q 100 lv (.ref x :: st) σ) := yX_at (.aload_n 0, 1, 0, 0, 0, 0, []) rfl
theorem g119_100 {c : Nat} : Y119 d Q 100 lv (.ref c :: st) σ ↔ zK c = 7 ∧ Y119 d Q 103 lv (zfv σ c 0 :: st) σ := yX_at (.getfield 7, 3, 7, 0, 220, 0, []) rfl
theorem g119_103  : Y119 d Q 103 lv st σ ↔ Y119 d Q 104 lv (.int 1 :: st) σ := yX_at (.iconst 1, 1, 0, 0, 0, 0, []) rfl
theorem g119_104  : Y119 d Q 104 lv st σ ↔ zdup2 st (fun r => Y119 d Q 105 lv r σ) := yX_at (.dup2, 1, 0, 0, 0, 0, []) rfl
theorem g119_105 {j : Int32} {c : Nat} : Y119 d Q 105 lv (.int j :: .ref c :: st) σ ↔ (zK c = 100 ∧ vp_in j (zLn c)) ∧ Y119 d Q 106 lv (.int (σ.1 c j.toNatClampNeg) :: st) σ := yX_at (.iaload, 1, 0, 0, 0, 0, []) rfl
theorem g119_106  : Y119 d Q 106 lv st σ ↔ zldR lv 0 (fun x => Y119 d Q 107 lv (.ref x :: st) σ) := yX_at (.aload_n 0, 1, 0, 0, 0, 0, []) rfl
theorem g119_107 {c : Nat} : Y119 d Q 107 lv (.ref c :: st) σ ↔ zK c = 7 ∧ Y119 d Q 110 lv (zfv σ c 7 :: st) σ := yX_at (.getfield 26, 3, 7, 7, 217, 0, []) rfl
theorem g119_110  : Y119 d Q 110 lv st σ ↔ Y119 d Q 111 lv (.int 5 :: st) σ := yX_at (.iconst 5, 1, 0, 0, 0, 0, []) rfl
theorem g119_111  : Y119 d Q 111 lv st σ ↔ zldI lv 4 (fun x => Y119 d Q 113 lv (.int x :: st) σ) := yX_at (.iload 4, 2, 0, 0, 0, 0, []) rfl
theorem g119_113 {x y : Int32} : Y119 d Q 113 lv (.int y :: .int x :: st) σ ↔ Y119 d Q 114 lv (.int (x * y) :: st) σ := yX_at (.imul, 1, 0, 0, 0, 0, []) rfl
theorem g119_114  : Y119 d Q 114 lv st σ ↔ Y119 d Q 115 lv (.int 3 :: st) σ := yX_at (.iconst 3, 1, 0, 0, 0, 0, []) rfl
theorem g119_115 {x y : Int32} : Y119 d Q 115 lv (.int y :: .int x :: st) σ ↔ Y119 d Q 116 lv (.int (x + y) :: st) σ := yX_at (.iadd, 1, 0, 0, 0, 0, []) rfl
theorem g119_116 {j : Int32} {c : Nat} : Y119 d Q 116 lv (.int j :: .ref c :: st) σ ↔ (zK c = 100 ∧ vp_in j (zLn c)) ∧ Y119 d Q 117 lv (.int (σ.1 c j.toNatClampNeg) :: st) σ := yX_at (.iaload, 1, 0, 0, 0, 0, []) rfl
theorem g119_117 {x y : Int32} : Y119 d Q 117 lv (.int y :: .int x :: st) σ ↔ Y119 d Q 118 lv (.int (x + y) :: st) σ := yX_at (.iadd, 1, 0, 0, 0, 0, []) rfl
theorem g119_118 {x j : Int32} {c : Nat} : Y119 d Q 118 lv (.int x :: .int j :: .ref c :: st) σ ↔ (zK c = 100 ∧ vp_in j (zLn c)) ∧ Y119 d Q 119 lv st (zwI σ c j.toNatClampNeg x) := yX_at (.iastore, 1, 0, 0, 0, 0, []) rfl
theorem g119_119  : Y119 d Q 119 lv st σ ↔ zldI lv 1 (fun x => Y119 d Q 122 (zs1 1 (.int (x + 1)) lv) st σ) := yX_at (.iinc 1 1, 3, 0, 0, 0, 0, []) rfl
theorem g119_122  : Y119 d Q 122 lv st σ ↔ zldI lv 3 (fun x => Y119 d Q 125 (zs1 3 (.int (x + 1)) lv) st σ) := yX_at (.iinc 3 1, 3, 0, 0, 0, 0, []) rfl
theorem g119_125  : Y119 d Q 125 lv st σ ↔ Y119 d Q 28 lv st σ := yX_at (.goto (-97), 3, 28, 0, 0, 0, []) rfl
theorem g119_128  : Y119 d Q 128 lv st σ ↔ zldI lv 2 (fun x => Y119 d Q 131 (zs1 2 (.int (x + 1)) lv) st σ) := yX_at (.iinc 2 1, 3, 0, 0, 0, 0, []) rfl
theorem g119_131  : Y119 d Q 131 lv st σ ↔ Y119 d Q 18 lv st σ := yX_at (.goto (-113), 3, 18, 0, 0, 0, []) rfl
theorem g119_134  : Y119 d Q 134 lv st σ ↔ Y119 d Q 135 lv (.int 0 :: st) σ := yX_at (.iconst 0, 1, 0, 0, 0, 0, []) rfl
theorem g119_135 {x : Int32} : Y119 d Q 135 lv (.int x :: st) σ ↔ Y119 d Q 136 (zs1 2 (.int x) lv) st σ := yX_at (.istore_n 2, 1, 0, 0, 0, 0, []) rfl
theorem g119_136  : Y119 d Q 136 lv st σ ↔ zldI lv 2 (fun x => Y119 d Q 137 lv (.int x :: st) σ) := yX_at (.iload_n 2, 1, 0, 0, 0, 0, []) rfl
theorem g119_137  : Y119 d Q 137 lv st σ ↔ zldR lv 0 (fun x => Y119 d Q 138 lv (.ref x :: st) σ) := yX_at (.aload_n 0, 1, 0, 0, 0, 0, []) rfl
theorem g119_138 {c : Nat} : Y119 d Q 138 lv (.ref c :: st) σ ↔ zK c = 7 ∧ Y119 d Q 141 lv (zfv σ c 6 :: st) σ := yX_at (.getfield 71, 3, 7, 6, 187, 0, []) rfl
theorem g119_141 {x y : Int32} : Y119 d Q 141 lv (.int y :: .int x :: st) σ ↔ (y ≤ x → Y119 d Q 258 lv st σ) ∧ (¬ y ≤ x → Y119 d Q 144 lv st σ) := yX_at (.if_icmp .ge 117, 3, 258, 0, 0, 0, []) rfl
theorem g119_144  : Y119 d Q 144 lv st σ ↔ zldR lv 0 (fun x => Y119 d Q 145 lv (.ref x :: st) σ) := yX_at (.aload_n 0, 1, 0, 0, 0, 0, []) rfl
theorem g119_145 {c : Nat} : Y119 d Q 145 lv (.ref c :: st) σ ↔ zK c = 7 ∧ Y119 d Q 148 lv (zfv σ c 0 :: st) σ := yX_at (.getfield 7, 3, 7, 0, 220, 0, []) rfl
theorem g119_148  : Y119 d Q 148 lv st σ ↔ Y119 d Q 149 lv (.int 3 :: st) σ := yX_at (.iconst 3, 1, 0, 0, 0, 0, []) rfl
theorem g119_149  : Y119 d Q 149 lv st σ ↔ zldI lv 2 (fun x => Y119 d Q 150 lv (.int x :: st) σ) := yX_at (.iload_n 2, 1, 0, 0, 0, 0, []) rfl
theorem g119_150 {x y : Int32} : Y119 d Q 150 lv (.int y :: .int x :: st) σ ↔ Y119 d Q 151 lv (.int (x + y) :: st) σ := yX_at (.iadd, 1, 0, 0, 0, 0, []) rfl
theorem g119_151 {j : Int32} {c : Nat} : Y119 d Q 151 lv (.int j :: .ref c :: st) σ ↔ (zK c = 100 ∧ vp_in j (zLn c)) ∧ Y119 d Q 152 lv (.int (σ.1 c j.toNatClampNeg) :: st) σ := yX_at (.iaload, 1, 0, 0, 0, 0, []) rfl
theorem g119_152  : Y119 d Q 152 lv st σ ↔ Y119 d Q 153 lv (.int 1 :: st) σ := yX_at (.iconst 1, 1, 0, 0, 0, 0, []) rfl
theorem g119_153 {x y : Int32} : Y119 d Q 153 lv (.int y :: .int x :: st) σ ↔ (¬ x = y → Y119 d Q 213 lv st σ) ∧ (x = y → Y119 d Q 156 lv st σ) := yX_at (.if_icmp .ne 60, 3, 213, 0, 0, 0, []) rfl
theorem g119_156  : Y119 d Q 156 lv st σ ↔ zldR lv 0 (fun x => Y119 d Q 157 lv (.ref x :: st) σ) := yX_at (.aload_n 0, 1, 0, 0, 0, 0, []) rfl
theorem g119_157 {c : Nat} : Y119 d Q 157 lv (.ref c :: st) σ ↔ zK c = 7 ∧ Y119 d Q 160 lv (zfv σ c 7 :: st) σ := yX_at (.getfield 26, 3, 7, 7, 217, 0, []) rfl
theorem g119_160  : Y119 d Q 160 lv st σ ↔ Y119 d Q 161 lv (.int 5 :: st) σ := yX_at (.iconst 5, 1, 0, 0, 0, 0, []) rfl
theorem g119_161  : Y119 d Q 161 lv st σ ↔ zldI lv 2 (fun x => Y119 d Q 162 lv (.int x :: st) σ) := yX_at (.iload_n 2, 1, 0, 0, 0, 0, []) rfl
theorem g119_162 {x y : Int32} : Y119 d Q 162 lv (.int y :: .int x :: st) σ ↔ Y119 d Q 163 lv (.int (x * y) :: st) σ := yX_at (.imul, 1, 0, 0, 0, 0, []) rfl
theorem g119_163  : Y119 d Q 163 lv st σ ↔ Y119 d Q 164 lv (.int 4 :: st) σ := yX_at (.iconst 4, 1, 0, 0, 0, 0, []) rfl
theorem g119_164 {x y : Int32} : Y119 d Q 164 lv (.int y :: .int x :: st) σ ↔ Y119 d Q 165 lv (.int (x + y) :: st) σ := yX_at (.iadd, 1, 0, 0, 0, 0, []) rfl
theorem g119_165 {j : Int32} {c : Nat} : Y119 d Q 165 lv (.int j :: .ref c :: st) σ ↔ (zK c = 100 ∧ vp_in j (zLn c)) ∧ Y119 d Q 166 lv (.int (σ.1 c j.toNatClampNeg) :: st) σ := yX_at (.iaload, 1, 0, 0, 0, 0, []) rfl
theorem g119_166  : Y119 d Q 166 lv st σ ↔ zldR lv 0 (fun x => Y119 d Q 167 lv (.ref x :: st) σ) := yX_at (.aload_n 0, 1, 0, 0, 0, 0, []) rfl
theorem g119_167 {c : Nat} : Y119 d Q 167 lv (.ref c :: st) σ ↔ zK c = 7 ∧ Y119 d Q 170 lv (zfv σ c 0 :: st) σ := yX_at (.getfield 7, 3, 7, 0, 220, 0, []) rfl
theorem g119_170  : Y119 d Q 170 lv st σ ↔ Y119 d Q 171 lv (.int 0 :: st) σ := yX_at (.iconst 0, 1, 0, 0, 0, 0, []) rfl
theorem g119_171 {j : Int32} {c : Nat} : Y119 d Q 171 lv (.int j :: .ref c :: st) σ ↔ (zK c = 100 ∧ vp_in j (zLn c)) ∧ Y119 d Q 172 lv (.int (σ.1 c j.toNatClampNeg) :: st) σ := yX_at (.iaload, 1, 0, 0, 0, 0, []) rfl
theorem g119_172 {x y : Int32} : Y119 d Q 172 lv (.int y :: .int x :: st) σ ↔ (¬ x = y → Y119 d Q 213 lv st σ) ∧ (x = y → Y119 d Q 175 lv st σ) := yX_at (.if_icmp .ne 41, 3, 213, 0, 0, 0, []) rfl
theorem g119_175  : Y119 d Q 175 lv st σ ↔ zldR lv 0 (fun x => Y119 d Q 176 lv (.ref x :: st) σ) := yX_at (.aload_n 0, 1, 0, 0, 0, 0, []) rfl
theorem g119_176  : Y119 d Q 176 lv st σ ↔ zldR lv 0 (fun x => Y119 d Q 177 lv (.ref x :: st) σ) := yX_at (.aload_n 0, 1, 0, 0, 0, 0, []) rfl
theorem g119_177  : Y119 d Q 177 lv st σ ↔ zldI lv 2 (fun x => Y119 d Q 178 lv (.int x :: st) σ) := yX_at (.iload_n 2, 1, 0, 0, 0, 0, []) rfl
theorem g119_178 {v0 : Value} {c : Nat} : Y119 d Q 178 lv (v0 :: .ref c :: st) σ ↔ (zrcv 7 c ∧ zrm st) ∧ ∃ rv σ', yE d 105 [.ref c, v0] σ rv σ' ∧ Y119 d Q 181 lv (rv.toList ++ st) σ' := yX_at (.invokevirtual 147, 3, 105, 1, 226, 0, []) rfl
set_option maxRecDepth 20000 in
theorem g119_181  : Y119 d Q 181 lv st σ ↔ zldI lv 2 (fun x => Y119 d Q 182 lv (.int x :: st) σ) := yX_at (.iload_n 2, 1, 0, 0, 0, 0, []) rfl
set_option maxRecDepth 20000 in
theorem g119_182 {v0 v1 : Value} {c : Nat} : Y119 d Q 182 lv (v1 :: v0 :: .ref c :: st) σ ↔ (zrcv 7 c ∧ zrm st) ∧ ∃ rv σ', yE d 110 [.ref c, v0, v1] σ rv σ' ∧ Y119 d Q 185 lv (rv.toList ++ st) σ' := yX_at (.invokevirtual 162, 3, 110, 2, 230, 0, []) rfl
set_option maxRecDepth 20000 in
theorem g119_185  : Y119 d Q 185 lv st σ ↔ zldR lv 0 (fun x => Y119 d Q 186 lv (.ref x :: st) σ) := yX_at (.aload_n 0, 1, 0, 0, 0, 0, []) rfl
set_option maxRecDepth 20000 in
theorem g119_186 {c : Nat} : Y119 d Q 186 lv (.ref c :: st) σ ↔ zK c = 7 ∧ Y119 d Q 189 lv (zfv σ c 0 :: st) σ := yX_at (.getfield 7, 3, 7, 0, 220, 0, []) rfl
set_option maxRecDepth 20000 in
theorem g119_189  : Y119 d Q 189 lv st σ ↔ Y119 d Q 190 lv (.int 3 :: st) σ := yX_at (.iconst 3, 1, 0, 0, 0, 0, []) rfl
set_option maxRecDepth 20000 in
theorem g119_190  : Y119 d Q 190 lv st σ ↔ zldI lv 2 (fun x => Y119 d Q 191 lv (.int x :: st) σ) := yX_at (.iload_n 2, 1, 0, 0, 0, 0, []) rfl
set_option maxRecDepth 20000 in
theorem g119_191 {x y : Int32} : Y119 d Q 191 lv (.int y :: .int x :: st) σ ↔ Y119 d Q 192 lv (.int (x + y) :: st) σ := yX_at (.iadd, 1, 0, 0, 0, 0, []) rfl
set_option maxRecDepth 20000 in
theorem g119_192  : Y119 d Q 192 lv st σ ↔ Y119 d Q 193 lv (.int 3 :: st) σ := yX_at (.iconst 3, 1, 0, 0, 0, 0, []) rfl
set_option maxRecDepth 20000 in
theorem g119_193 {x j : Int32} {c : Nat} : Y119 d Q 193 lv (.int x :: .int j :: .ref c :: st) σ ↔ (zK c = 100 ∧ vp_in j (zLn c)) ∧ Y119 d Q 194 lv st (zwI σ c j.toNatClampNeg x) := yX_at (.iastore, 1, 0, 0, 0, 0, []) rfl
set_option maxRecDepth 20000 in
theorem g119_194  : Y119 d Q 194 lv st σ ↔ zldR lv 0 (fun x => Y119 d Q 195 lv (.ref x :: st) σ) := yX_at (.aload_n 0, 1, 0, 0, 0, 0, []) rfl
set_option maxRecDepth 20000 in
theorem g119_195 {c : Nat} : Y119 d Q 195 lv (.ref c :: st) σ ↔ zK c = 7 ∧ Y119 d Q 198 lv (zfv σ c 0 :: st) σ := yX_at (.getfield 7, 3, 7, 0, 220, 0, []) rfl
set_option maxRecDepth 20000 in
theorem g119_198  : Y119 d Q 198 lv st σ ↔ Y119 d Q 199 lv (.int 2 :: st) σ := yX_at (.iconst 2, 1, 0, 0, 0, 0, []) rfl
set_option maxRecDepth 20000 in
theorem g119_199  : Y119 d Q 199 lv st σ ↔ zdup2 st (fun r => Y119 d Q 200 lv r σ) := yX_at (.dup2, 1, 0, 0, 0, 0, []) rfl
set_option maxRecDepth 20000 in
theorem g119_200 {j : Int32} {c : Nat} : Y119 d Q 200 lv (.int j :: .ref c :: st) σ ↔ (zK c = 100 ∧ vp_in j (zLn c)) ∧ Y119 d Q 201 lv (.int (σ.1 c j.toNatClampNeg) :: st) σ := yX_at (.iaload, 1, 0, 0, 0, 0, []) rfl
set_option maxRecDepth 20000 in
theorem g119_201  : Y119 d Q 201 lv st σ ↔ zldR lv 0 (fun x => Y119 d Q 202 lv (.ref x :: st) σ) := yX_at (.aload_n 0, 1, 0, 0, 0, 0, []) rfl
set_option maxRecDepth 20000 in
theorem g119_202 {c : Nat} : Y119 d Q 202 lv (.ref c :: st) σ ↔ zK c = 7 ∧ Y119 d Q 205 lv (zfv σ c 7 :: st) σ := yX_at (.getfield 26, 3, 7, 7, 217, 0, []) rfl
set_option maxRecDepth 20000 in
theorem g119_205  : Y119 d Q 205 lv st σ ↔ Y119 d Q 206 lv (.int 5 :: st) σ := yX_at (.iconst 5, 1, 0, 0, 0, 0, []) rfl
set_option maxRecDepth 20000 in
theorem g119_206  : Y119 d Q 206 lv st σ ↔ zldI lv 2 (fun x => Y119 d Q 207 lv (.int x :: st) σ) := yX_at (.iload_n 2, 1, 0, 0, 0, 0, []) rfl
set_option maxRecDepth 20000 in
theorem g119_207 {x y : Int32} : Y119 d Q 207 lv (.int y :: .int x :: st) σ ↔ Y119 d Q 208 lv (.int (x * y) :: st) σ := yX_at (.imul, 1, 0, 0, 0, 0, []) rfl
set_option maxRecDepth 20000 in
theorem g119_208  : Y119 d Q 208 lv st σ ↔ Y119 d Q 209 lv (.int 3 :: st) σ := yX_at (.iconst 3, 1, 0, 0, 0, 0, []) rfl
set_option maxRecDepth 20000 in
theorem g119_209 {x y : Int32} : Y119 d Q 209 lv (.int y :: .int x :: st) σ ↔ Y119 d Q 210 lv (.int (x + y) :: st) σ := yX_at (.iadd, 1, 0, 0, 0, 0, []) rfl
set_option maxRecDepth 20000 in
theorem g119_210 {j : Int32} {c : Nat} : Y119 d Q 210 lv (.int j :: .ref c :: st) σ ↔ (zK c = 100 ∧ vp_in j (zLn c)) ∧ Y119 d Q 211 lv (.int (σ.1 c j.toNatClampNeg) :: st) σ := yX_at (.iaload, 1, 0, 0, 0, 0, []) rfl
set_option maxRecDepth 20000 in
theorem g119_211 {x y : Int32} : Y119 d Q 211 lv (.int y :: .int x :: st) σ ↔ Y119 d Q 212 lv (.int (x + y) :: st) σ := yX_at (.iadd, 1, 0, 0, 0, 0, []) rfl
set_option maxRecDepth 20000 in
theorem g119_212 {x j : Int32} {c : Nat} : Y119 d Q 212 lv (.int x :: .int j :: .ref c :: st) σ ↔ (zK c = 100 ∧ vp_in j (zLn c)) ∧ Y119 d Q 213 lv st (zwI σ c j.toNatClampNeg x) := yX_at (.iastore, 1, 0, 0, 0, 0, []) rfl
set_option maxRecDepth 20000 in
theorem g119_213  : Y119 d Q 213 lv st σ ↔ zldR lv 0 (fun x => Y119 d Q 214 lv (.ref x :: st) σ) := yX_at (.aload_n 0, 1, 0, 0, 0, 0, []) rfl
set_option maxRecDepth 20000 in
theorem g119_214 {c : Nat} : Y119 d Q 214 lv (.ref c :: st) σ ↔ zK c = 7 ∧ Y119 d Q 217 lv (zfv σ c 0 :: st) σ := yX_at (.getfield 7, 3, 7, 0, 220, 0, []) rfl
set_option maxRecDepth 20000 in
theorem g119_217  : Y119 d Q 217 lv st σ ↔ Y119 d Q 218 lv (.int 3 :: st) σ := yX_at (.iconst 3, 1, 0, 0, 0, 0, []) rfl
set_option maxRecDepth 20000 in
theorem g119_218  : Y119 d Q 218 lv st σ ↔ zldI lv 2 (fun x => Y119 d Q 219 lv (.int x :: st) σ) := yX_at (.iload_n 2, 1, 0, 0, 0, 0, []) rfl
set_option maxRecDepth 20000 in
theorem g119_219 {x y : Int32} : Y119 d Q 219 lv (.int y :: .int x :: st) σ ↔ Y119 d Q 220 lv (.int (x + y) :: st) σ := yX_at (.iadd, 1, 0, 0, 0, 0, []) rfl
set_option maxRecDepth 20000 in
theorem g119_220 {j : Int32} {c : Nat} : Y119 d Q 220 lv (.int j :: .ref c :: st) σ ↔ (zK c = 100 ∧ vp_in j (zLn c)) ∧ Y119 d Q 221 lv (.int (σ.1 c j.toNatClampNeg) :: st) σ := yX_at (.iaload, 1, 0, 0, 0, 0, []) rfl
set_option maxRecDepth 20000 in
theorem g119_221 {x : Int32} : Y119 d Q 221 lv (.int x :: st) σ ↔ (¬ x = 0 → Y119 d Q 252 lv st σ) ∧ (x = 0 → Y119 d Q 224 lv st σ) := yX_at (.ifCond .ne 31, 3, 252, 0, 0, 0, []) rfl
set_option maxRecDepth 20000 in
theorem g119_224  : Y119 d Q 224 lv st σ ↔ zldR lv 0 (fun x => Y119 d Q 225 lv (.ref x :: st) σ) := yX_at (.aload_n 0, 1, 0, 0, 0, 0, []) rfl
set_option maxRecDepth 20000 in
theorem g119_225 {c : Nat} : Y119 d Q 225 lv (.ref c :: st) σ ↔ zK c = 7 ∧ Y119 d Q 228 lv (zfv σ c 7 :: st) σ := yX_at (.getfield 26, 3, 7, 7, 217, 0, []) rfl
set_option maxRecDepth 20000 in
theorem g119_228  : Y119 d Q 228 lv st σ ↔ Y119 d Q 229 lv (.int 5 :: st) σ := yX_at (.iconst 5, 1, 0, 0, 0, 0, []) rfl
set_option maxRecDepth 20000 in
theorem g119_229  : Y119 d Q 229 lv st σ ↔ zldI lv 2 (fun x => Y119 d Q 230 lv (.int x :: st) σ) := yX_at (.iload_n 2, 1, 0, 0, 0, 0, []) rfl
set_option maxRecDepth 20000 in
theorem g119_230 {x y : Int32} : Y119 d Q 230 lv (.int y :: .int x :: st) σ ↔ Y119 d Q 231 lv (.int (x * y) :: st) σ := yX_at (.imul, 1, 0, 0, 0, 0, []) rfl
set_option maxRecDepth 20000 in
theorem g119_231  : Y119 d Q 231 lv st σ ↔ Y119 d Q 232 lv (.int 1 :: st) σ := yX_at (.iconst 1, 1, 0, 0, 0, 0, []) rfl
set_option maxRecDepth 20000 in
theorem g119_232 {x y : Int32} : Y119 d Q 232 lv (.int y :: .int x :: st) σ ↔ Y119 d Q 233 lv (.int (x + y) :: st) σ := yX_at (.iadd, 1, 0, 0, 0, 0, []) rfl
set_option maxRecDepth 20000 in
theorem g119_233 {j : Int32} {c : Nat} : Y119 d Q 233 lv (.int j :: .ref c :: st) σ ↔ (zK c = 100 ∧ vp_in j (zLn c)) ∧ Y119 d Q 234 lv (.int (σ.1 c j.toNatClampNeg) :: st) σ := yX_at (.iaload, 1, 0, 0, 0, 0, []) rfl
set_option maxRecDepth 20000 in
theorem g119_234  : Y119 d Q 234 lv st σ ↔ zldR lv 0 (fun x => Y119 d Q 235 lv (.ref x :: st) σ) := yX_at (.aload_n 0, 1, 0, 0, 0, 0, []) rfl
set_option maxRecDepth 20000 in
theorem g119_235 {c : Nat} : Y119 d Q 235 lv (.ref c :: st) σ ↔ zK c = 7 ∧ Y119 d Q 238 lv (zfv σ c 0 :: st) σ := yX_at (.getfield 7, 3, 7, 0, 220, 0, []) rfl
set_option maxRecDepth 20000 in
theorem g119_238  : Y119 d Q 238 lv st σ ↔ Y119 d Q 239 lv (.int 0 :: st) σ := yX_at (.iconst 0, 1, 0, 0, 0, 0, []) rfl
set_option maxRecDepth 20000 in
theorem g119_239 {j : Int32} {c : Nat} : Y119 d Q 239 lv (.int j :: .ref c :: st) σ ↔ (zK c = 100 ∧ vp_in j (zLn c)) ∧ Y119 d Q 240 lv (.int (σ.1 c j.toNatClampNeg) :: st) σ := yX_at (.iaload, 1, 0, 0, 0, 0, []) rfl
set_option maxRecDepth 20000 in
theorem g119_240 {x y : Int32} : Y119 d Q 240 lv (.int y :: .int x :: st) σ ↔ (¬ x = y → Y119 d Q 252 lv st σ) ∧ (x = y → Y119 d Q 243 lv st σ) := yX_at (.if_icmp .ne 12, 3, 252, 0, 0, 0, []) rfl
set_option maxRecDepth 20000 in
theorem g119_243  : Y119 d Q 243 lv st σ ↔ zldR lv 0 (fun x => Y119 d Q 244 lv (.ref x :: st) σ) := yX_at (.aload_n 0, 1, 0, 0, 0, 0, []) rfl
set_option maxRecDepth 20000 in
theorem g119_244 {c : Nat} : Y119 d Q 244 lv (.ref c :: st) σ ↔ zK c = 7 ∧ Y119 d Q 247 lv (zfv σ c 0 :: st) σ := yX_at (.getfield 7, 3, 7, 0, 220, 0, []) rfl
set_option maxRecDepth 20000 in
theorem g119_247  : Y119 d Q 247 lv st σ ↔ Y119 d Q 248 lv (.int 3 :: st) σ := yX_at (.iconst 3, 1, 0, 0, 0, 0, []) rfl
set_option maxRecDepth 20000 in
theorem g119_248  : Y119 d Q 248 lv st σ ↔ zldI lv 2 (fun x => Y119 d Q 249 lv (.int x :: st) σ) := yX_at (.iload_n 2, 1, 0, 0, 0, 0, []) rfl
set_option maxRecDepth 20000 in
theorem g119_249 {x y : Int32} : Y119 d Q 249 lv (.int y :: .int x :: st) σ ↔ Y119 d Q 250 lv (.int (x + y) :: st) σ := yX_at (.iadd, 1, 0, 0, 0, 0, []) rfl
set_option maxRecDepth 20000 in
theorem g119_250  : Y119 d Q 250 lv st σ ↔ Y119 d Q 251 lv (.int 3 :: st) σ := yX_at (.iconst 3, 1, 0, 0, 0, 0, []) rfl
set_option maxRecDepth 20000 in
theorem g119_251 {x j : Int32} {c : Nat} : Y119 d Q 251 lv (.int x :: .int j :: .ref c :: st) σ ↔ (zK c = 100 ∧ vp_in j (zLn c)) ∧ Y119 d Q 252 lv st (zwI σ c j.toNatClampNeg x) := yX_at (.iastore, 1, 0, 0, 0, 0, []) rfl
set_option maxRecDepth 20000 in
theorem g119_252  : Y119 d Q 252 lv st σ ↔ zldI lv 2 (fun x => Y119 d Q 255 (zs1 2 (.int (x + 1)) lv) st σ) := yX_at (.iinc 2 1, 3, 0, 0, 0, 0, []) rfl
set_option maxRecDepth 20000 in
theorem g119_255  : Y119 d Q 255 lv st σ ↔ Y119 d Q 136 lv st σ := yX_at (.goto (-119), 3, 136, 0, 0, 0, []) rfl
set_option maxRecDepth 20000 in
theorem g119_258  : Y119 d Q 258 lv st σ ↔ zldR lv 0 (fun x => Y119 d Q 259 lv (.ref x :: st) σ) := yX_at (.aload_n 0, 1, 0, 0, 0, 0, []) rfl
set_option maxRecDepth 20000 in
theorem g119_259 {c : Nat} : Y119 d Q 259 lv (.ref c :: st) σ ↔ zK c = 7 ∧ Y119 d Q 262 lv (zfv σ c 0 :: st) σ := yX_at (.getfield 7, 3, 7, 0, 220, 0, []) rfl
set_option maxRecDepth 20000 in
theorem g119_262  : Y119 d Q 262 lv st σ ↔ Y119 d Q 263 lv (.int 0 :: st) σ := yX_at (.iconst 0, 1, 0, 0, 0, 0, []) rfl
set_option maxRecDepth 20000 in
theorem g119_263  : Y119 d Q 263 lv st σ ↔ zdup2 st (fun r => Y119 d Q 264 lv r σ) := yX_at (.dup2, 1, 0, 0, 0, 0, []) rfl
set_option maxRecDepth 20000 in
theorem g119_264 {j : Int32} {c : Nat} : Y119 d Q 264 lv (.int j :: .ref c :: st) σ ↔ (zK c = 100 ∧ vp_in j (zLn c)) ∧ Y119 d Q 265 lv (.int (σ.1 c j.toNatClampNeg) :: st) σ := yX_at (.iaload, 1, 0, 0, 0, 0, []) rfl
set_option maxRecDepth 20000 in
theorem g119_265  : Y119 d Q 265 lv st σ ↔ Y119 d Q 266 lv (.int 1 :: st) σ := yX_at (.iconst 1, 1, 0, 0, 0, 0, []) rfl
set_option maxRecDepth 20000 in
theorem g119_266 {x y : Int32} : Y119 d Q 266 lv (.int y :: .int x :: st) σ ↔ Y119 d Q 267 lv (.int (x + y) :: st) σ := yX_at (.iadd, 1, 0, 0, 0, 0, []) rfl
set_option maxRecDepth 20000 in
theorem g119_267 {x j : Int32} {c : Nat} : Y119 d Q 267 lv (.int x :: .int j :: .ref c :: st) σ ↔ (zK c = 100 ∧ vp_in j (zLn c)) ∧ Y119 d Q 268 lv st (zwI σ c j.toNatClampNeg x) := yX_at (.iastore, 1, 0, 0, 0, 0, []) rfl
set_option maxRecDepth 20000 in
theorem g119_268  : Y119 d Q 268 lv st σ ↔ zldR lv 0 (fun x => Y119 d Q 269 lv (.ref x :: st) σ) := yX_at (.aload_n 0, 1, 0, 0, 0, 0, []) rfl
set_option maxRecDepth 20000 in
theorem g119_269 {c : Nat} : Y119 d Q 269 lv (.ref c :: st) σ ↔ zK c = 7 ∧ Y119 d Q 272 lv (zfv σ c 0 :: st) σ := yX_at (.getfield 7, 3, 7, 0, 220, 0, []) rfl
set_option maxRecDepth 20000 in
theorem g119_272  : Y119 d Q 272 lv st σ ↔ Y119 d Q 274 lv (.int 43 :: st) σ := yX_at (.bipush 43, 2, 0, 0, 0, 0, []) rfl
set_option maxRecDepth 20000 in
theorem g119_274  : Y119 d Q 274 lv st σ ↔ Y119 d Q 275 lv (.int 0 :: st) σ := yX_at (.iconst 0, 1, 0, 0, 0, 0, []) rfl
set_option maxRecDepth 20000 in
theorem g119_275 {x j : Int32} {c : Nat} : Y119 d Q 275 lv (.int x :: .int j :: .ref c :: st) σ ↔ (zK c = 100 ∧ vp_in j (zLn c)) ∧ Y119 d Q 276 lv st (zwI σ c j.toNatClampNeg x) := yX_at (.iastore, 1, 0, 0, 0, 0, []) rfl
set_option maxRecDepth 20000 in
theorem g119_276  : Y119 d Q 276 lv st σ ↔ zldI lv 1 (fun x => Y119 d Q 277 lv (.int x :: st) σ) := yX_at (.iload_n 1, 1, 0, 0, 0, 0, []) rfl
set_option maxRecDepth 20000 in
theorem g119_277 {x : Int32} : Y119 d Q 277 lv [.int x] σ ↔ Q (some (.int x)) σ := yX_at (.ireturn, 1, 0, 0, 0, 0, []) rfl
end G119
def Y120 (d : Nat) (Q : Option Value → zSt → Prop) (pc : Nat) (lv : zLv) (st : List Value) (σ : zSt) : Prop := yX (yE d) ySn zt120 Q pc lv st σ
theorem C120 {d : Nat} {as : List Value} {σ : zSt} {P : Option Value → zSt → Prop} (hl : (lg_sl as).length ≤ 3) (h : Y120 d P 0 (lv_args 0 as) [] σ) : yC (d + 1) 120 as σ P := yC_of (by decide) hl h
section G120
variable {d : Nat} {Q : Option Value → zSt → Prop} {lv : zLv} {st : List Value} {σ : zSt}
theorem g120_0  : Y120 d Q 0 lv st σ ↔ Y120 d Q 1 lv (.int 0 :: st) σ := yX_at (.iconst 0, 1, 0, 0, 0, 0, []) rfl
theorem g120_1 {x : Int32} : Y120 d Q 1 lv (.int x :: st) σ ↔ Y120 d Q 2 (zs1 1 (.int x) lv) st σ := yX_at (.istore_n 1, 1, 0, 0, 0, 0, []) rfl
theorem g120_2  : Y120 d Q 2 lv st σ ↔ Y120 d Q 3 lv (.int 0 :: st) σ := yX_at (.iconst 0, 1, 0, 0, 0, 0, []) rfl
theorem g120_3 {x : Int32} : Y120 d Q 3 lv (.int x :: st) σ ↔ Y120 d Q 4 (zs1 2 (.int x) lv) st σ := yX_at (.istore_n 2, 1, 0, 0, 0, 0, []) rfl
theorem g120_4  : Y120 d Q 4 lv st σ ↔ zldI lv 2 (fun x => Y120 d Q 5 lv (.int x :: st) σ) := yX_at (.iload_n 2, 1, 0, 0, 0, 0, []) rfl
theorem g120_5  : Y120 d Q 5 lv st σ ↔ zldR lv 0 (fun x => Y120 d Q 6 lv (.ref x :: st) σ) := yX_at (.aload_n 0, 1, 0, 0, 0, 0, []) rfl
theorem g120_6 {c : Nat} : Y120 d Q 6 lv (.ref c :: st) σ ↔ zK c = 7 ∧ Y120 d Q 9 lv (zfv σ c 2 :: st) σ := yX_at (.getfield 63, 3, 7, 2, 185, 0, []) rfl
theorem g120_9 {x y : Int32} : Y120 d Q 9 lv (.int y :: .int x :: st) σ ↔ (y ≤ x → Y120 d Q 30 lv st σ) ∧ (¬ y ≤ x → Y120 d Q 12 lv st σ) := yX_at (.if_icmp .ge 21, 3, 30, 0, 0, 0, []) rfl
theorem g120_12  : Y120 d Q 12 lv st σ ↔ zldI lv 1 (fun x => Y120 d Q 13 lv (.int x :: st) σ) := yX_at (.iload_n 1, 1, 0, 0, 0, 0, []) rfl
theorem g120_13  : Y120 d Q 13 lv st σ ↔ zldR lv 0 (fun x => Y120 d Q 14 lv (.ref x :: st) σ) := yX_at (.aload_n 0, 1, 0, 0, 0, 0, []) rfl
theorem g120_14 {c : Nat} : Y120 d Q 14 lv (.ref c :: st) σ ↔ zK c = 7 ∧ Y120 d Q 17 lv (zfv σ c 0 :: st) σ := yX_at (.getfield 7, 3, 7, 0, 220, 0, []) rfl
theorem g120_17  : Y120 d Q 17 lv st σ ↔ Y120 d Q 19 lv (.int 19 :: st) σ := yX_at (.bipush 19, 2, 0, 0, 0, 0, []) rfl
theorem g120_19  : Y120 d Q 19 lv st σ ↔ zldI lv 2 (fun x => Y120 d Q 20 lv (.int x :: st) σ) := yX_at (.iload_n 2, 1, 0, 0, 0, 0, []) rfl
theorem g120_20 {x y : Int32} : Y120 d Q 20 lv (.int y :: .int x :: st) σ ↔ Y120 d Q 21 lv (.int (x + y) :: st) σ := yX_at (.iadd, 1, 0, 0, 0, 0, []) rfl
theorem g120_21 {j : Int32} {c : Nat} : Y120 d Q 21 lv (.int j :: .ref c :: st) σ ↔ (zK c = 100 ∧ vp_in j (zLn c)) ∧ Y120 d Q 22 lv (.int (σ.1 c j.toNatClampNeg) :: st) σ := yX_at (.iaload, 1, 0, 0, 0, 0, []) rfl
theorem g120_22 {x y : Int32} : Y120 d Q 22 lv (.int y :: .int x :: st) σ ↔ Y120 d Q 23 lv (.int (x + y) :: st) σ := yX_at (.iadd, 1, 0, 0, 0, 0, []) rfl
theorem g120_23 {x : Int32} : Y120 d Q 23 lv (.int x :: st) σ ↔ Y120 d Q 24 (zs1 1 (.int x) lv) st σ := yX_at (.istore_n 1, 1, 0, 0, 0, 0, []) rfl
theorem g120_24  : Y120 d Q 24 lv st σ ↔ zldI lv 2 (fun x => Y120 d Q 27 (zs1 2 (.int (x + 1)) lv) st σ) := yX_at (.iinc 2 1, 3, 0, 0, 0, 0, []) rfl
theorem g120_27  : Y120 d Q 27 lv st σ ↔ Y120 d Q 4 lv st σ := yX_at (.goto (-23), 3, 4, 0, 0, 0, []) rfl
theorem g120_30  : Y120 d Q 30 lv st σ ↔ zldI lv 1 (fun x => Y120 d Q 31 lv (.int x :: st) σ) := yX_at (.iload_n 1, 1, 0, 0, 0, 0, []) rfl
theorem g120_31 {x : Int32} : Y120 d Q 31 lv [.int x] σ ↔ Q (some (.int x)) σ := yX_at (.ireturn, 1, 0, 0, 0, 0, []) rfl
end G120
def Y121 (d : Nat) (Q : Option Value → zSt → Prop) (pc : Nat) (lv : zLv) (st : List Value) (σ : zSt) : Prop := yX (yE d) ySn zt121 Q pc lv st σ
theorem C121 {d : Nat} {as : List Value} {σ : zSt} {P : Option Value → zSt → Prop} (hl : (lg_sl as).length ≤ 2) (h : Y121 d P 0 (lv_args 0 as) [] σ) : yC (d + 1) 121 as σ P := yC_of (by decide) hl h
section G121
variable {d : Nat} {Q : Option Value → zSt → Prop} {lv : zLv} {st : List Value} {σ : zSt}
theorem g121_0  : Y121 d Q 0 lv st σ ↔ zldI lv 1 (fun x => Y121 d Q 1 lv (.int x :: st) σ) := yX_at (.iload_n 1, 1, 0, 0, 0, 0, []) rfl
theorem g121_1 {x : Int32} : Y121 d Q 1 lv (.int x :: st) σ ↔ (x = 0 → Y121 d Q 36 lv st σ) ∧ (¬ x = 0 → ((x = 1 → Y121 d Q 43 lv st σ) ∧ (¬ x = 1 → ((x = 2 → Y121 d Q 50 lv st σ) ∧ (¬ x = 2 → ((x = 3 → Y121 d Q 57 lv st σ) ∧ (¬ x = 3 → ((x = 4 → Y121 d Q 62 lv st σ) ∧ (¬ x = 4 → (Y121 d Q 70 lv st σ)))))))))) := yX_at (.tableswitch 69 0 4 #[35, 42, 49, 56, 61], 35, 70, 0, 0, 0, [(0, 36), (1, 43), (2, 50), (3, 57), (4, 62)]) rfl
theorem g121_36  : Y121 d Q 36 lv st σ ↔ zldR lv 0 (fun x => Y121 d Q 37 lv (.ref x :: st) σ) := yX_at (.aload_n 0, 1, 0, 0, 0, 0, []) rfl
theorem g121_37 {c : Nat} : Y121 d Q 37 lv (.ref c :: st) σ ↔ zK c = 7 ∧ Y121 d Q 40 lv (zfv σ c 0 :: st) σ := yX_at (.getfield 7, 3, 7, 0, 220, 0, []) rfl
theorem g121_40  : Y121 d Q 40 lv st σ ↔ Y121 d Q 41 lv (.int 0 :: st) σ := yX_at (.iconst 0, 1, 0, 0, 0, 0, []) rfl
theorem g121_41 {j : Int32} {c : Nat} : Y121 d Q 41 lv (.int j :: .ref c :: st) σ ↔ (zK c = 100 ∧ vp_in j (zLn c)) ∧ Y121 d Q 42 lv (.int (σ.1 c j.toNatClampNeg) :: st) σ := yX_at (.iaload, 1, 0, 0, 0, 0, []) rfl
theorem g121_42 {x : Int32} : Y121 d Q 42 lv [.int x] σ ↔ Q (some (.int x)) σ := yX_at (.ireturn, 1, 0, 0, 0, 0, []) rfl
theorem g121_43  : Y121 d Q 43 lv st σ ↔ zldR lv 0 (fun x => Y121 d Q 44 lv (.ref x :: st) σ) := yX_at (.aload_n 0, 1, 0, 0, 0, 0, []) rfl
theorem g121_44 {c : Nat} : Y121 d Q 44 lv (.ref c :: st) σ ↔ zK c = 7 ∧ Y121 d Q 47 lv (zfv σ c 0 :: st) σ := yX_at (.getfield 7, 3, 7, 0, 220, 0, []) rfl
theorem g121_47  : Y121 d Q 47 lv st σ ↔ Y121 d Q 48 lv (.int 1 :: st) σ := yX_at (.iconst 1, 1, 0, 0, 0, 0, []) rfl
theorem g121_48 {j : Int32} {c : Nat} : Y121 d Q 48 lv (.int j :: .ref c :: st) σ ↔ (zK c = 100 ∧ vp_in j (zLn c)) ∧ Y121 d Q 49 lv (.int (σ.1 c j.toNatClampNeg) :: st) σ := yX_at (.iaload, 1, 0, 0, 0, 0, []) rfl
theorem g121_49 {x : Int32} : Y121 d Q 49 lv [.int x] σ ↔ Q (some (.int x)) σ := yX_at (.ireturn, 1, 0, 0, 0, 0, []) rfl
theorem g121_50  : Y121 d Q 50 lv st σ ↔ zldR lv 0 (fun x => Y121 d Q 51 lv (.ref x :: st) σ) := yX_at (.aload_n 0, 1, 0, 0, 0, 0, []) rfl
theorem g121_51 {c : Nat} : Y121 d Q 51 lv (.ref c :: st) σ ↔ zK c = 7 ∧ Y121 d Q 54 lv (zfv σ c 0 :: st) σ := yX_at (.getfield 7, 3, 7, 0, 220, 0, []) rfl
theorem g121_54  : Y121 d Q 54 lv st σ ↔ Y121 d Q 55 lv (.int 2 :: st) σ := yX_at (.iconst 2, 1, 0, 0, 0, 0, []) rfl
theorem g121_55 {j : Int32} {c : Nat} : Y121 d Q 55 lv (.int j :: .ref c :: st) σ ↔ (zK c = 100 ∧ vp_in j (zLn c)) ∧ Y121 d Q 56 lv (.int (σ.1 c j.toNatClampNeg) :: st) σ := yX_at (.iaload, 1, 0, 0, 0, 0, []) rfl
theorem g121_56 {x : Int32} : Y121 d Q 56 lv [.int x] σ ↔ Q (some (.int x)) σ := yX_at (.ireturn, 1, 0, 0, 0, 0, []) rfl
theorem g121_57  : Y121 d Q 57 lv st σ ↔ zldR lv 0 (fun x => Y121 d Q 58 lv (.ref x :: st) σ) := yX_at (.aload_n 0, 1, 0, 0, 0, 0, []) rfl
theorem g121_58 {c : Nat} : Y121 d Q 58 lv (.ref c :: st) σ ↔ (zrcv 7 c ∧ zrm st) ∧ ∃ rv σ', yE d 120 [.ref c] σ rv σ' ∧ Y121 d Q 61 lv (rv.toList ++ st) σ' := yX_at (.invokevirtual 172, 3, 120, 0, 233, 0, []) rfl
theorem g121_61 {x : Int32} : Y121 d Q 61 lv [.int x] σ ↔ Q (some (.int x)) σ := yX_at (.ireturn, 1, 0, 0, 0, 0, []) rfl
theorem g121_62  : Y121 d Q 62 lv st σ ↔ zldR lv 0 (fun x => Y121 d Q 63 lv (.ref x :: st) σ) := yX_at (.aload_n 0, 1, 0, 0, 0, 0, []) rfl
theorem g121_63 {c : Nat} : Y121 d Q 63 lv (.ref c :: st) σ ↔ zK c = 7 ∧ Y121 d Q 66 lv (zfv σ c 0 :: st) σ := yX_at (.getfield 7, 3, 7, 0, 220, 0, []) rfl
theorem g121_66  : Y121 d Q 66 lv st σ ↔ Y121 d Q 68 lv (.int 43 :: st) σ := yX_at (.bipush 43, 2, 0, 0, 0, 0, []) rfl
theorem g121_68 {j : Int32} {c : Nat} : Y121 d Q 68 lv (.int j :: .ref c :: st) σ ↔ (zK c = 100 ∧ vp_in j (zLn c)) ∧ Y121 d Q 69 lv (.int (σ.1 c j.toNatClampNeg) :: st) σ := yX_at (.iaload, 1, 0, 0, 0, 0, []) rfl
theorem g121_69 {x : Int32} : Y121 d Q 69 lv [.int x] σ ↔ Q (some (.int x)) σ := yX_at (.ireturn, 1, 0, 0, 0, 0, []) rfl
theorem g121_70  : Y121 d Q 70 lv st σ ↔ Y121 d Q 71 lv (.int (-1) :: st) σ := by
  rw [show (-1 : Int32) = Int32.ofInt (-1) from by decide]
  exact yX_at (.iconst (-1), 1, 0, 0, 0, 0, []) rfl
theorem g121_71 {x : Int32} : Y121 d Q 71 lv [.int x] σ ↔ Q (some (.int x)) σ := yX_at (.ireturn, 1, 0, 0, 0, 0, []) rfl
end G121
def Y122 (d : Nat) (Q : Option Value → zSt → Prop) (pc : Nat) (lv : zLv) (st : List Value) (σ : zSt) : Prop := yX (yE d) ySn zt122 Q pc lv st σ
theorem C122 {d : Nat} {as : List Value} {σ : zSt} {P : Option Value → zSt → Prop} (hl : (lg_sl as).length ≤ 10) (h : Y122 d P 0 (lv_args 0 as) [] σ) : yC (d + 1) 122 as σ P := yC_of (by decide) hl h
section G122
variable {d : Nat} {Q : Option Value → zSt → Prop} {lv : zLv} {st : List Value} {σ : zSt}
theorem g122_0  : Y122 d Q 0 lv st σ ↔ Y122 d Q 1 lv (.int 0 :: st) σ := yX_at (.iconst 0, 1, 0, 0, 0, 0, []) rfl
theorem g122_1 {x : Int32} : Y122 d Q 1 lv (.int x :: st) σ ↔ Y122 d Q 3 (zs1 4 (.int x) lv) st σ := yX_at (.istore 4, 2, 0, 0, 0, 0, []) rfl
theorem g122_3  : Y122 d Q 3 lv st σ ↔ zldR lv 0 (fun x => Y122 d Q 4 lv (.ref x :: st) σ) := yX_at (.aload_n 0, 1, 0, 0, 0, 0, []) rfl
theorem g122_4 {c : Nat} : Y122 d Q 4 lv (.ref c :: st) σ ↔ zK c = 7 ∧ Y122 d Q 7 lv (zfv σ c 0 :: st) σ := yX_at (.getfield 7, 3, 7, 0, 220, 0, []) rfl
theorem g122_7  : Y122 d Q 7 lv st σ ↔ Y122 d Q 8 lv (.int 0 :: st) σ := yX_at (.iconst 0, 1, 0, 0, 0, 0, []) rfl
theorem g122_8 {j : Int32} {c : Nat} : Y122 d Q 8 lv (.int j :: .ref c :: st) σ ↔ (zK c = 100 ∧ vp_in j (zLn c)) ∧ Y122 d Q 9 lv (.int (σ.1 c j.toNatClampNeg) :: st) σ := yX_at (.iaload, 1, 0, 0, 0, 0, []) rfl
theorem g122_9 {x : Int32} : Y122 d Q 9 lv (.int x :: st) σ ↔ Y122 d Q 11 (zs1 5 (.int x) lv) st σ := yX_at (.istore 5, 2, 0, 0, 0, 0, []) rfl
theorem g122_11  : Y122 d Q 11 lv st σ ↔ zldI lv 5 (fun x => Y122 d Q 13 lv (.int x :: st) σ) := yX_at (.iload 5, 2, 0, 0, 0, 0, []) rfl
theorem g122_13  : Y122 d Q 13 lv st σ ↔ Y122 d Q 15 lv (.int 10 :: st) σ := yX_at (.bipush 10, 2, 0, 0, 0, 0, []) rfl
theorem g122_15 {x y : Int32} : Y122 d Q 15 lv (.int y :: .int x :: st) σ ↔ (y ≤ x → Y122 d Q 273 lv st σ) ∧ (¬ y ≤ x → Y122 d Q 18 lv st σ) := yX_at (.if_icmp .ge 258, 3, 273, 0, 0, 0, []) rfl
theorem g122_18  : Y122 d Q 18 lv st σ ↔ Y122 d Q 19 lv (.int 0 :: st) σ := yX_at (.iconst 0, 1, 0, 0, 0, 0, []) rfl
theorem g122_19 {x : Int32} : Y122 d Q 19 lv (.int x :: st) σ ↔ Y122 d Q 21 (zs1 6 (.int x) lv) st σ := yX_at (.istore 6, 2, 0, 0, 0, 0, []) rfl
theorem g122_21  : Y122 d Q 21 lv st σ ↔ zldI lv 6 (fun x => Y122 d Q 23 lv (.int x :: st) σ) := yX_at (.iload 6, 2, 0, 0, 0, 0, []) rfl
theorem g122_23  : Y122 d Q 23 lv st σ ↔ zldR lv 0 (fun x => Y122 d Q 24 lv (.ref x :: st) σ) := yX_at (.aload_n 0, 1, 0, 0, 0, 0, []) rfl
theorem g122_24 {c : Nat} : Y122 d Q 24 lv (.ref c :: st) σ ↔ zK c = 7 ∧ Y122 d Q 27 lv (zfv σ c 6 :: st) σ := yX_at (.getfield 71, 3, 7, 6, 187, 0, []) rfl
theorem g122_27 {x y : Int32} : Y122 d Q 27 lv (.int y :: .int x :: st) σ ↔ (y ≤ x → Y122 d Q 88 lv st σ) ∧ (¬ y ≤ x → Y122 d Q 30 lv st σ) := yX_at (.if_icmp .ge 61, 3, 88, 0, 0, 0, []) rfl
theorem g122_30  : Y122 d Q 30 lv st σ ↔ zldI lv 1 (fun x => Y122 d Q 31 lv (.int x :: st) σ) := yX_at (.iload_n 1, 1, 0, 0, 0, 0, []) rfl
theorem g122_31  : Y122 d Q 31 lv st σ ↔ zldI lv 6 (fun x => Y122 d Q 33 lv (.int x :: st) σ) := yX_at (.iload 6, 2, 0, 0, 0, 0, []) rfl
theorem g122_33 {v0 v1 : Value} : Y122 d Q 33 lv (v1 :: v0 :: st) σ ↔ zrm st ∧ ∃ rv σ', yE d 92 [v0, v1] σ rv σ' ∧ Y122 d Q 36 lv (rv.toList ++ st) σ' := yX_at (.invokestatic 176, 3, 92, 2, 234, 0, []) rfl
theorem g122_36 {x : Int32} : Y122 d Q 36 lv (.int x :: st) σ ↔ (x = 0 → Y122 d Q 82 lv st σ) ∧ (¬ x = 0 → Y122 d Q 39 lv st σ) := yX_at (.ifCond .eq 46, 3, 82, 0, 0, 0, []) rfl
theorem g122_39  : Y122 d Q 39 lv st σ ↔ zldR lv 0 (fun x => Y122 d Q 40 lv (.ref x :: st) σ) := yX_at (.aload_n 0, 1, 0, 0, 0, 0, []) rfl
theorem g122_40 {c : Nat} : Y122 d Q 40 lv (.ref c :: st) σ ↔ zK c = 7 ∧ Y122 d Q 43 lv (zfv σ c 7 :: st) σ := yX_at (.getfield 26, 3, 7, 7, 217, 0, []) rfl
theorem g122_43  : Y122 d Q 43 lv st σ ↔ Y122 d Q 44 lv (.int 5 :: st) σ := yX_at (.iconst 5, 1, 0, 0, 0, 0, []) rfl
theorem g122_44  : Y122 d Q 44 lv st σ ↔ zldI lv 6 (fun x => Y122 d Q 46 lv (.int x :: st) σ) := yX_at (.iload 6, 2, 0, 0, 0, 0, []) rfl
theorem g122_46 {x y : Int32} : Y122 d Q 46 lv (.int y :: .int x :: st) σ ↔ Y122 d Q 47 lv (.int (x * y) :: st) σ := yX_at (.imul, 1, 0, 0, 0, 0, []) rfl
theorem g122_47  : Y122 d Q 47 lv st σ ↔ Y122 d Q 48 lv (.int 1 :: st) σ := yX_at (.iconst 1, 1, 0, 0, 0, 0, []) rfl
theorem g122_48 {x y : Int32} : Y122 d Q 48 lv (.int y :: .int x :: st) σ ↔ Y122 d Q 49 lv (.int (x + y) :: st) σ := yX_at (.iadd, 1, 0, 0, 0, 0, []) rfl
theorem g122_49 {j : Int32} {c : Nat} : Y122 d Q 49 lv (.int j :: .ref c :: st) σ ↔ (zK c = 100 ∧ vp_in j (zLn c)) ∧ Y122 d Q 50 lv (.int (σ.1 c j.toNatClampNeg) :: st) σ := yX_at (.iaload, 1, 0, 0, 0, 0, []) rfl
theorem g122_50  : Y122 d Q 50 lv st σ ↔ zldI lv 5 (fun x => Y122 d Q 52 lv (.int x :: st) σ) := yX_at (.iload 5, 2, 0, 0, 0, 0, []) rfl
theorem g122_52 {x y : Int32} : Y122 d Q 52 lv (.int y :: .int x :: st) σ ↔ (¬ x = y → Y122 d Q 82 lv st σ) ∧ (x = y → Y122 d Q 55 lv st σ) := yX_at (.if_icmp .ne 30, 3, 82, 0, 0, 0, []) rfl
theorem g122_55  : Y122 d Q 55 lv st σ ↔ zldR lv 0 (fun x => Y122 d Q 56 lv (.ref x :: st) σ) := yX_at (.aload_n 0, 1, 0, 0, 0, 0, []) rfl
theorem g122_56 {c : Nat} : Y122 d Q 56 lv (.ref c :: st) σ ↔ zK c = 7 ∧ Y122 d Q 59 lv (zfv σ c 25 :: st) σ := yX_at (.getfield 53, 3, 7, 25, 235, 0, []) rfl
theorem g122_59  : Y122 d Q 59 lv st σ ↔ zldI lv 6 (fun x => Y122 d Q 61 lv (.int x :: st) σ) := yX_at (.iload 6, 2, 0, 0, 0, 0, []) rfl
theorem g122_61  : Y122 d Q 61 lv st σ ↔ zldR lv 0 (fun x => Y122 d Q 62 lv (.ref x :: st) σ) := yX_at (.aload_n 0, 1, 0, 0, 0, 0, []) rfl
theorem g122_62 {c : Nat} : Y122 d Q 62 lv (.ref c :: st) σ ↔ zK c = 7 ∧ Y122 d Q 65 lv (zfv σ c 7 :: st) σ := yX_at (.getfield 26, 3, 7, 7, 217, 0, []) rfl
theorem g122_65  : Y122 d Q 65 lv st σ ↔ Y122 d Q 66 lv (.int 5 :: st) σ := yX_at (.iconst 5, 1, 0, 0, 0, 0, []) rfl
theorem g122_66  : Y122 d Q 66 lv st σ ↔ zldI lv 6 (fun x => Y122 d Q 68 lv (.int x :: st) σ) := yX_at (.iload 6, 2, 0, 0, 0, 0, []) rfl
theorem g122_68 {x y : Int32} : Y122 d Q 68 lv (.int y :: .int x :: st) σ ↔ Y122 d Q 69 lv (.int (x * y) :: st) σ := yX_at (.imul, 1, 0, 0, 0, 0, []) rfl
theorem g122_69  : Y122 d Q 69 lv st σ ↔ Y122 d Q 70 lv (.int 2 :: st) σ := yX_at (.iconst 2, 1, 0, 0, 0, 0, []) rfl
theorem g122_70 {x y : Int32} : Y122 d Q 70 lv (.int y :: .int x :: st) σ ↔ Y122 d Q 71 lv (.int (x + y) :: st) σ := yX_at (.iadd, 1, 0, 0, 0, 0, []) rfl
theorem g122_71 {j : Int32} {c : Nat} : Y122 d Q 71 lv (.int j :: .ref c :: st) σ ↔ (zK c = 100 ∧ vp_in j (zLn c)) ∧ Y122 d Q 72 lv (.int (σ.1 c j.toNatClampNeg) :: st) σ := yX_at (.iaload, 1, 0, 0, 0, 0, []) rfl
theorem g122_72 {x j : Int32} {c : Nat} : Y122 d Q 72 lv (.int x :: .int j :: .ref c :: st) σ ↔ (zK c = 100 ∧ vp_in j (zLn c)) ∧ Y122 d Q 73 lv st (zwI σ c j.toNatClampNeg x) := yX_at (.iastore, 1, 0, 0, 0, 0, []) rfl
theorem g122_73  : Y122 d Q 73 lv st σ ↔ zldI lv 4 (fun x => Y122 d Q 75 lv (.int x :: st) σ) := yX_at (.iload 4, 2, 0, 0, 0, 0, []) rfl
theorem g122_75  : Y122 d Q 75 lv st σ ↔ Y122 d Q 76 lv (.int 1 :: st) σ := yX_at (.iconst 1, 1, 0, 0, 0, 0, []) rfl
theorem g122_76  : Y122 d Q 76 lv st σ ↔ zldI lv 6 (fun x => Y122 d Q 78 lv (.int x :: st) σ) := yX_at (.iload 6, 2, 0, 0, 0, 0, []) rfl
theorem g122_78 {x y : Int32} : Y122 d Q 78 lv (.int y :: .int x :: st) σ ↔ Y122 d Q 79 lv (.int (x <<< (y &&& 31)) :: st) σ := yX_at (.ishl, 1, 0, 0, 0, 0, []) rfl
theorem g122_79 {x y : Int32} : Y122 d Q 79 lv (.int y :: .int x :: st) σ ↔ Y122 d Q 80 lv (.int (x ||| y) :: st) σ := yX_at (.ior, 1, 0, 0, 0, 0, []) rfl
theorem g122_80 {x : Int32} : Y122 d Q 80 lv (.int x :: st) σ ↔ Y122 d Q 82 (zs1 4 (.int x) lv) st σ := yX_at (.istore 4, 2, 0, 0, 0, 0, []) rfl
theorem g122_82  : Y122 d Q 82 lv st σ ↔ zldI lv 6 (fun x => Y122 d Q 85 (zs1 6 (.int (x + 1)) lv) st σ) := yX_at (.iinc 6 1, 3, 0, 0, 0, 0, []) rfl
theorem g122_85  : Y122 d Q 85 lv st σ ↔ Y122 d Q 21 lv st σ := yX_at (.goto (-64), 3, 21, 0, 0, 0, []) rfl
theorem g122_88  : Y122 d Q 88 lv st σ ↔ zldI lv 4 (fun x => Y122 d Q 90 lv (.int x :: st) σ) := yX_at (.iload 4, 2, 0, 0, 0, 0, []) rfl
theorem g122_90 {v0 : Value} : Y122 d Q 90 lv (v0 :: st) σ ↔ zrm st ∧ ∃ rv σ', yE d 93 [v0] σ rv σ' ∧ Y122 d Q 93 lv (rv.toList ++ st) σ' := yX_at (.invokestatic 180, 3, 93, 1, 236, 0, []) rfl
theorem g122_93  : Y122 d Q 93 lv st σ ↔ zldI lv 2 (fun x => Y122 d Q 94 lv (.int x :: st) σ) := yX_at (.iload_n 2, 1, 0, 0, 0, 0, []) rfl
theorem g122_94 {x y : Int32} : Y122 d Q 94 lv (.int y :: .int x :: st) σ ↔ (x ≤ y → Y122 d Q 99 lv st σ) ∧ (¬ x ≤ y → Y122 d Q 97 lv st σ) := yX_at (.if_icmp .le 5, 3, 99, 0, 0, 0, []) rfl
theorem g122_97  : Y122 d Q 97 lv st σ ↔ Y122 d Q 98 lv (.int 0 :: st) σ := yX_at (.iconst 0, 1, 0, 0, 0, 0, []) rfl
theorem g122_98 {x : Int32} : Y122 d Q 98 lv [.int x] σ ↔ (x = 0 ∨ x = 1) ∧ Q (some (.int x)) σ := yX_at (.ireturn, 1, 1, 0, 0, 0, []) rfl
theorem g122_99  : Y122 d Q 99 lv st σ ↔ zldI lv 3 (fun x => Y122 d Q 100 lv (.int x :: st) σ) := yX_at (.iload_n 3, 1, 0, 0, 0, 0, []) rfl
theorem g122_100 {x : Int32} : Y122 d Q 100 lv (.int x :: st) σ ↔ Y122 d Q 102 (zs1 6 (.int x) lv) st σ := yX_at (.istore 6, 2, 0, 0, 0, 0, []) rfl
theorem g122_102  : Y122 d Q 102 lv st σ ↔ zldI lv 5 (fun x => Y122 d Q 104 lv (.int x :: st) σ) := yX_at (.iload 5, 2, 0, 0, 0, 0, []) rfl
theorem g122_104 {x : Int32} : Y122 d Q 104 lv (.int x :: st) σ ↔ Y122 d Q 106 (zs1 7 (.int x) lv) st σ := yX_at (.istore 7, 2, 0, 0, 0, 0, []) rfl
theorem g122_106  : Y122 d Q 106 lv st σ ↔ zldI lv 7 (fun x => Y122 d Q 108 lv (.int x :: st) σ) := yX_at (.iload 7, 2, 0, 0, 0, 0, []) rfl
theorem g122_108  : Y122 d Q 108 lv st σ ↔ Y122 d Q 110 lv (.int 10 :: st) σ := yX_at (.bipush 10, 2, 0, 0, 0, 0, []) rfl
theorem g122_110 {x y : Int32} : Y122 d Q 110 lv (.int y :: .int x :: st) σ ↔ (y ≤ x → Y122 d Q 221 lv st σ) ∧ (¬ y ≤ x → Y122 d Q 113 lv st σ) := yX_at (.if_icmp .ge 111, 3, 221, 0, 0, 0, []) rfl
theorem g122_113  : Y122 d Q 113 lv st σ ↔ Y122 d Q 114 lv (.int 0 :: st) σ := yX_at (.iconst 0, 1, 0, 0, 0, 0, []) rfl
theorem g122_114 {x : Int32} : Y122 d Q 114 lv (.int x :: st) σ ↔ Y122 d Q 116 (zs1 8 (.int x) lv) st σ := yX_at (.istore 8, 2, 0, 0, 0, 0, []) rfl
theorem g122_116  : Y122 d Q 116 lv st σ ↔ zldI lv 8 (fun x => Y122 d Q 118 lv (.int x :: st) σ) := yX_at (.iload 8, 2, 0, 0, 0, 0, []) rfl
theorem g122_118  : Y122 d Q 118 lv st σ ↔ zldR lv 0 (fun x => Y122 d Q 119 lv (.ref x :: st) σ) := yX_at (.aload_n 0, 1, 0, 0, 0, 0, []) rfl
theorem g122_119 {c : Nat} : Y122 d Q 119 lv (.ref c :: st) σ ↔ zK c = 7 ∧ Y122 d Q 122 lv (zfv σ c 6 :: st) σ := yX_at (.getfield 71, 3, 7, 6, 187, 0, []) rfl
theorem g122_122 {x y : Int32} : Y122 d Q 122 lv (.int y :: .int x :: st) σ ↔ (y ≤ x → Y122 d Q 215 lv st σ) ∧ (¬ y ≤ x → Y122 d Q 125 lv st σ) := yX_at (.if_icmp .ge 93, 3, 215, 0, 0, 0, []) rfl
theorem g122_125  : Y122 d Q 125 lv st σ ↔ zldI lv 4 (fun x => Y122 d Q 127 lv (.int x :: st) σ) := yX_at (.iload 4, 2, 0, 0, 0, 0, []) rfl
theorem g122_127  : Y122 d Q 127 lv st σ ↔ zldI lv 8 (fun x => Y122 d Q 129 lv (.int x :: st) σ) := yX_at (.iload 8, 2, 0, 0, 0, 0, []) rfl
theorem g122_129 {v0 v1 : Value} : Y122 d Q 129 lv (v1 :: v0 :: st) σ ↔ zrm st ∧ ∃ rv σ', yE d 92 [v0, v1] σ rv σ' ∧ Y122 d Q 132 lv (rv.toList ++ st) σ' := yX_at (.invokestatic 176, 3, 92, 2, 234, 0, []) rfl
theorem g122_132 {x : Int32} : Y122 d Q 132 lv (.int x :: st) σ ↔ (x = 0 → Y122 d Q 209 lv st σ) ∧ (¬ x = 0 → Y122 d Q 135 lv st σ) := yX_at (.ifCond .eq 77, 3, 209, 0, 0, 0, []) rfl
theorem g122_135  : Y122 d Q 135 lv st σ ↔ zldR lv 0 (fun x => Y122 d Q 136 lv (.ref x :: st) σ) := yX_at (.aload_n 0, 1, 0, 0, 0, 0, []) rfl
theorem g122_136 {c : Nat} : Y122 d Q 136 lv (.ref c :: st) σ ↔ zK c = 7 ∧ Y122 d Q 139 lv (zfv σ c 7 :: st) σ := yX_at (.getfield 26, 3, 7, 7, 217, 0, []) rfl
theorem g122_139  : Y122 d Q 139 lv st σ ↔ Y122 d Q 140 lv (.int 5 :: st) σ := yX_at (.iconst 5, 1, 0, 0, 0, 0, []) rfl
theorem g122_140  : Y122 d Q 140 lv st σ ↔ zldI lv 8 (fun x => Y122 d Q 142 lv (.int x :: st) σ) := yX_at (.iload 8, 2, 0, 0, 0, 0, []) rfl
theorem g122_142 {x y : Int32} : Y122 d Q 142 lv (.int y :: .int x :: st) σ ↔ Y122 d Q 143 lv (.int (x * y) :: st) σ := yX_at (.imul, 1, 0, 0, 0, 0, []) rfl
theorem g122_143  : Y122 d Q 143 lv st σ ↔ Y122 d Q 144 lv (.int 4 :: st) σ := yX_at (.iconst 4, 1, 0, 0, 0, 0, []) rfl
theorem g122_144 {x y : Int32} : Y122 d Q 144 lv (.int y :: .int x :: st) σ ↔ Y122 d Q 145 lv (.int (x + y) :: st) σ := yX_at (.iadd, 1, 0, 0, 0, 0, []) rfl
theorem g122_145 {j : Int32} {c : Nat} : Y122 d Q 145 lv (.int j :: .ref c :: st) σ ↔ (zK c = 100 ∧ vp_in j (zLn c)) ∧ Y122 d Q 146 lv (.int (σ.1 c j.toNatClampNeg) :: st) σ := yX_at (.iaload, 1, 0, 0, 0, 0, []) rfl
theorem g122_146  : Y122 d Q 146 lv st σ ↔ zldI lv 7 (fun x => Y122 d Q 148 lv (.int x :: st) σ) := yX_at (.iload 7, 2, 0, 0, 0, 0, []) rfl
theorem g122_148 {x y : Int32} : Y122 d Q 148 lv (.int y :: .int x :: st) σ ↔ (¬ x = y → Y122 d Q 209 lv st σ) ∧ (x = y → Y122 d Q 151 lv st σ) := yX_at (.if_icmp .ne 61, 3, 209, 0, 0, 0, []) rfl
theorem g122_151  : Y122 d Q 151 lv st σ ↔ zldI lv 6 (fun x => Y122 d Q 153 lv (.int x :: st) σ) := yX_at (.iload 6, 2, 0, 0, 0, 0, []) rfl
theorem g122_153  : Y122 d Q 153 lv st σ ↔ zldR lv 0 (fun x => Y122 d Q 154 lv (.ref x :: st) σ) := yX_at (.aload_n 0, 1, 0, 0, 0, 0, []) rfl
theorem g122_154 {c : Nat} : Y122 d Q 154 lv (.ref c :: st) σ ↔ zK c = 7 ∧ Y122 d Q 157 lv (zfv σ c 25 :: st) σ := yX_at (.getfield 53, 3, 7, 25, 235, 0, []) rfl
theorem g122_157  : Y122 d Q 157 lv st σ ↔ zldI lv 8 (fun x => Y122 d Q 159 lv (.int x :: st) σ) := yX_at (.iload 8, 2, 0, 0, 0, 0, []) rfl
theorem g122_159 {j : Int32} {c : Nat} : Y122 d Q 159 lv (.int j :: .ref c :: st) σ ↔ (zK c = 100 ∧ vp_in j (zLn c)) ∧ Y122 d Q 160 lv (.int (σ.1 c j.toNatClampNeg) :: st) σ := yX_at (.iaload, 1, 0, 0, 0, 0, []) rfl
theorem g122_160 {v0 v1 : Value} : Y122 d Q 160 lv (v1 :: v0 :: st) σ ↔ zrm st ∧ ∃ rv σ', yE d 94 [v0, v1] σ rv σ' ∧ Y122 d Q 163 lv (rv.toList ++ st) σ' := yX_at (.invokestatic 95, 3, 94, 2, 197, 0, []) rfl
theorem g122_163 {x : Int32} : Y122 d Q 163 lv (.int x :: st) σ ↔ Y122 d Q 165 (zs1 9 (.int x) lv) st σ := yX_at (.istore 9, 2, 0, 0, 0, 0, []) rfl
theorem g122_165  : Y122 d Q 165 lv st σ ↔ zldR lv 0 (fun x => Y122 d Q 166 lv (.ref x :: st) σ) := yX_at (.aload_n 0, 1, 0, 0, 0, 0, []) rfl
theorem g122_166 {c : Nat} : Y122 d Q 166 lv (.ref c :: st) σ ↔ zK c = 7 ∧ Y122 d Q 169 lv (zfv σ c 25 :: st) σ := yX_at (.getfield 53, 3, 7, 25, 235, 0, []) rfl
theorem g122_169  : Y122 d Q 169 lv st σ ↔ zldI lv 8 (fun x => Y122 d Q 171 lv (.int x :: st) σ) := yX_at (.iload 8, 2, 0, 0, 0, 0, []) rfl
theorem g122_171  : Y122 d Q 171 lv st σ ↔ zdup2 st (fun r => Y122 d Q 172 lv r σ) := yX_at (.dup2, 1, 0, 0, 0, 0, []) rfl
theorem g122_172 {j : Int32} {c : Nat} : Y122 d Q 172 lv (.int j :: .ref c :: st) σ ↔ (zK c = 100 ∧ vp_in j (zLn c)) ∧ Y122 d Q 173 lv (.int (σ.1 c j.toNatClampNeg) :: st) σ := yX_at (.iaload, 1, 0, 0, 0, 0, []) rfl
theorem g122_173  : Y122 d Q 173 lv st σ ↔ zldI lv 9 (fun x => Y122 d Q 175 lv (.int x :: st) σ) := yX_at (.iload 9, 2, 0, 0, 0, 0, []) rfl
theorem g122_175 {x y : Int32} : Y122 d Q 175 lv (.int y :: .int x :: st) σ ↔ Y122 d Q 176 lv (.int (x - y) :: st) σ := yX_at (.isub, 1, 0, 0, 0, 0, []) rfl
theorem g122_176 {x j : Int32} {c : Nat} : Y122 d Q 176 lv (.int x :: .int j :: .ref c :: st) σ ↔ (zK c = 100 ∧ vp_in j (zLn c)) ∧ Y122 d Q 177 lv st (zwI σ c j.toNatClampNeg x) := yX_at (.iastore, 1, 0, 0, 0, 0, []) rfl
theorem g122_177  : Y122 d Q 177 lv st σ ↔ zldI lv 6 (fun x => Y122 d Q 179 lv (.int x :: st) σ) := yX_at (.iload 6, 2, 0, 0, 0, 0, []) rfl
theorem g122_179  : Y122 d Q 179 lv st σ ↔ zldI lv 9 (fun x => Y122 d Q 181 lv (.int x :: st) σ) := yX_at (.iload 9, 2, 0, 0, 0, 0, []) rfl
theorem g122_181 {x y : Int32} : Y122 d Q 181 lv (.int y :: .int x :: st) σ ↔ Y122 d Q 182 lv (.int (x - y) :: st) σ := yX_at (.isub, 1, 0, 0, 0, 0, []) rfl
theorem g122_182 {x : Int32} : Y122 d Q 182 lv (.int x :: st) σ ↔ Y122 d Q 184 (zs1 6 (.int x) lv) st σ := yX_at (.istore 6, 2, 0, 0, 0, 0, []) rfl
theorem g122_184  : Y122 d Q 184 lv st σ ↔ zldI lv 4 (fun x => Y122 d Q 186 lv (.int x :: st) σ) := yX_at (.iload 4, 2, 0, 0, 0, 0, []) rfl
theorem g122_186  : Y122 d Q 186 lv st σ ↔ zldR lv 0 (fun x => Y122 d Q 187 lv (.ref x :: st) σ) := yX_at (.aload_n 0, 1, 0, 0, 0, 0, []) rfl
theorem g122_187 {c : Nat} : Y122 d Q 187 lv (.ref c :: st) σ ↔ zK c = 7 ∧ Y122 d Q 190 lv (zfv σ c 25 :: st) σ := yX_at (.getfield 53, 3, 7, 25, 235, 0, []) rfl
theorem g122_190  : Y122 d Q 190 lv st σ ↔ zldI lv 8 (fun x => Y122 d Q 192 lv (.int x :: st) σ) := yX_at (.iload 8, 2, 0, 0, 0, 0, []) rfl
theorem g122_192 {j : Int32} {c : Nat} : Y122 d Q 192 lv (.int j :: .ref c :: st) σ ↔ (zK c = 100 ∧ vp_in j (zLn c)) ∧ Y122 d Q 193 lv (.int (σ.1 c j.toNatClampNeg) :: st) σ := yX_at (.iaload, 1, 0, 0, 0, 0, []) rfl
theorem g122_193 {x : Int32} : Y122 d Q 193 lv (.int x :: st) σ ↔ (¬ x = 0 → Y122 d Q 205 lv st σ) ∧ (x = 0 → Y122 d Q 196 lv st σ) := yX_at (.ifCond .ne 12, 3, 205, 0, 0, 0, []) rfl
theorem g122_196  : Y122 d Q 196 lv st σ ↔ Y122 d Q 197 lv (.int 1 :: st) σ := yX_at (.iconst 1, 1, 0, 0, 0, 0, []) rfl
theorem g122_197  : Y122 d Q 197 lv st σ ↔ zldI lv 8 (fun x => Y122 d Q 199 lv (.int x :: st) σ) := yX_at (.iload 8, 2, 0, 0, 0, 0, []) rfl
theorem g122_199 {x y : Int32} : Y122 d Q 199 lv (.int y :: .int x :: st) σ ↔ Y122 d Q 200 lv (.int (x <<< (y &&& 31)) :: st) σ := yX_at (.ishl, 1, 0, 0, 0, 0, []) rfl
set_option maxRecDepth 20000 in
theorem g122_200  : Y122 d Q 200 lv st σ ↔ Y122 d Q 201 lv (.int (-1) :: st) σ := by
  rw [show (-1 : Int32) = Int32.ofInt (-1) from by decide]
  exact yX_at (.iconst (-1), 1, 0, 0, 0, 0, []) rfl
set_option maxRecDepth 20000 in
theorem g122_201 {x y : Int32} : Y122 d Q 201 lv (.int y :: .int x :: st) σ ↔ Y122 d Q 202 lv (.int (x ^^^ y) :: st) σ := yX_at (.ixor, 1, 0, 0, 0, 0, []) rfl
set_option maxRecDepth 20000 in
theorem g122_202  : Y122 d Q 202 lv st σ ↔ Y122 d Q 206 lv st σ := yX_at (.goto 4, 3, 206, 0, 0, 0, []) rfl
set_option maxRecDepth 20000 in
theorem g122_205  : Y122 d Q 205 lv st σ ↔ Y122 d Q 206 lv (.int (-1) :: st) σ := by
  rw [show (-1 : Int32) = Int32.ofInt (-1) from by decide]
  exact yX_at (.iconst (-1), 1, 0, 0, 0, 0, []) rfl
set_option maxRecDepth 20000 in
theorem g122_206 {x y : Int32} : Y122 d Q 206 lv (.int y :: .int x :: st) σ ↔ Y122 d Q 207 lv (.int (x &&& y) :: st) σ := yX_at (.iand, 1, 0, 0, 0, 0, []) rfl
set_option maxRecDepth 20000 in
theorem g122_207 {x : Int32} : Y122 d Q 207 lv (.int x :: st) σ ↔ Y122 d Q 209 (zs1 4 (.int x) lv) st σ := yX_at (.istore 4, 2, 0, 0, 0, 0, []) rfl
set_option maxRecDepth 20000 in
theorem g122_209  : Y122 d Q 209 lv st σ ↔ zldI lv 8 (fun x => Y122 d Q 212 (zs1 8 (.int (x + 1)) lv) st σ) := yX_at (.iinc 8 1, 3, 0, 0, 0, 0, []) rfl
set_option maxRecDepth 20000 in
theorem g122_212  : Y122 d Q 212 lv st σ ↔ Y122 d Q 116 lv st σ := yX_at (.goto (-96), 3, 116, 0, 0, 0, []) rfl
set_option maxRecDepth 20000 in
theorem g122_215  : Y122 d Q 215 lv st σ ↔ zldI lv 7 (fun x => Y122 d Q 218 (zs1 7 (.int (x + 1)) lv) st σ) := yX_at (.iinc 7 1, 3, 0, 0, 0, 0, []) rfl
set_option maxRecDepth 20000 in
theorem g122_218  : Y122 d Q 218 lv st σ ↔ Y122 d Q 106 lv st σ := yX_at (.goto (-112), 3, 106, 0, 0, 0, []) rfl
set_option maxRecDepth 20000 in
theorem g122_221  : Y122 d Q 221 lv st σ ↔ Y122 d Q 222 lv (.int 0 :: st) σ := yX_at (.iconst 0, 1, 0, 0, 0, 0, []) rfl
set_option maxRecDepth 20000 in
theorem g122_222 {x : Int32} : Y122 d Q 222 lv (.int x :: st) σ ↔ Y122 d Q 224 (zs1 7 (.int x) lv) st σ := yX_at (.istore 7, 2, 0, 0, 0, 0, []) rfl
set_option maxRecDepth 20000 in
theorem g122_224  : Y122 d Q 224 lv st σ ↔ zldI lv 7 (fun x => Y122 d Q 226 lv (.int x :: st) σ) := yX_at (.iload 7, 2, 0, 0, 0, 0, []) rfl
set_option maxRecDepth 20000 in
theorem g122_226  : Y122 d Q 226 lv st σ ↔ zldR lv 0 (fun x => Y122 d Q 227 lv (.ref x :: st) σ) := yX_at (.aload_n 0, 1, 0, 0, 0, 0, []) rfl
set_option maxRecDepth 20000 in
theorem g122_227 {c : Nat} : Y122 d Q 227 lv (.ref c :: st) σ ↔ zK c = 7 ∧ Y122 d Q 230 lv (zfv σ c 6 :: st) σ := yX_at (.getfield 71, 3, 7, 6, 187, 0, []) rfl
set_option maxRecDepth 20000 in
theorem g122_230 {x y : Int32} : Y122 d Q 230 lv (.int y :: .int x :: st) σ ↔ (y ≤ x → Y122 d Q 267 lv st σ) ∧ (¬ y ≤ x → Y122 d Q 233 lv st σ) := yX_at (.if_icmp .ge 37, 3, 267, 0, 0, 0, []) rfl
set_option maxRecDepth 20000 in
theorem g122_233  : Y122 d Q 233 lv st σ ↔ zldI lv 4 (fun x => Y122 d Q 235 lv (.int x :: st) σ) := yX_at (.iload 4, 2, 0, 0, 0, 0, []) rfl
set_option maxRecDepth 20000 in
theorem g122_235  : Y122 d Q 235 lv st σ ↔ zldI lv 7 (fun x => Y122 d Q 237 lv (.int x :: st) σ) := yX_at (.iload 7, 2, 0, 0, 0, 0, []) rfl
set_option maxRecDepth 20000 in
theorem g122_237 {v0 v1 : Value} : Y122 d Q 237 lv (v1 :: v0 :: st) σ ↔ zrm st ∧ ∃ rv σ', yE d 92 [v0, v1] σ rv σ' ∧ Y122 d Q 240 lv (rv.toList ++ st) σ' := yX_at (.invokestatic 176, 3, 92, 2, 234, 0, []) rfl
set_option maxRecDepth 20000 in
theorem g122_240 {x : Int32} : Y122 d Q 240 lv (.int x :: st) σ ↔ (x = 0 → Y122 d Q 261 lv st σ) ∧ (¬ x = 0 → Y122 d Q 243 lv st σ) := yX_at (.ifCond .eq 21, 3, 261, 0, 0, 0, []) rfl
set_option maxRecDepth 20000 in
theorem g122_243  : Y122 d Q 243 lv st σ ↔ zldR lv 0 (fun x => Y122 d Q 244 lv (.ref x :: st) σ) := yX_at (.aload_n 0, 1, 0, 0, 0, 0, []) rfl
set_option maxRecDepth 20000 in
theorem g122_244 {c : Nat} : Y122 d Q 244 lv (.ref c :: st) σ ↔ zK c = 7 ∧ Y122 d Q 247 lv (zfv σ c 7 :: st) σ := yX_at (.getfield 26, 3, 7, 7, 217, 0, []) rfl
set_option maxRecDepth 20000 in
theorem g122_247  : Y122 d Q 247 lv st σ ↔ Y122 d Q 248 lv (.int 5 :: st) σ := yX_at (.iconst 5, 1, 0, 0, 0, 0, []) rfl
set_option maxRecDepth 20000 in
theorem g122_248  : Y122 d Q 248 lv st σ ↔ zldI lv 7 (fun x => Y122 d Q 250 lv (.int x :: st) σ) := yX_at (.iload 7, 2, 0, 0, 0, 0, []) rfl
set_option maxRecDepth 20000 in
theorem g122_250 {x y : Int32} : Y122 d Q 250 lv (.int y :: .int x :: st) σ ↔ Y122 d Q 251 lv (.int (x * y) :: st) σ := yX_at (.imul, 1, 0, 0, 0, 0, []) rfl
set_option maxRecDepth 20000 in
theorem g122_251  : Y122 d Q 251 lv st σ ↔ Y122 d Q 252 lv (.int 4 :: st) σ := yX_at (.iconst 4, 1, 0, 0, 0, 0, []) rfl
set_option maxRecDepth 20000 in
theorem g122_252 {x y : Int32} : Y122 d Q 252 lv (.int y :: .int x :: st) σ ↔ Y122 d Q 253 lv (.int (x + y) :: st) σ := yX_at (.iadd, 1, 0, 0, 0, 0, []) rfl
set_option maxRecDepth 20000 in
theorem g122_253 {j : Int32} {c : Nat} : Y122 d Q 253 lv (.int j :: .ref c :: st) σ ↔ (zK c = 100 ∧ vp_in j (zLn c)) ∧ Y122 d Q 254 lv (.int (σ.1 c j.toNatClampNeg) :: st) σ := yX_at (.iaload, 1, 0, 0, 0, 0, []) rfl
set_option maxRecDepth 20000 in
theorem g122_254  : Y122 d Q 254 lv st σ ↔ zldI lv 5 (fun x => Y122 d Q 256 lv (.int x :: st) σ) := yX_at (.iload 5, 2, 0, 0, 0, 0, []) rfl
set_option maxRecDepth 20000 in
theorem g122_256 {x y : Int32} : Y122 d Q 256 lv (.int y :: .int x :: st) σ ↔ (¬ x = y → Y122 d Q 261 lv st σ) ∧ (x = y → Y122 d Q 259 lv st σ) := yX_at (.if_icmp .ne 5, 3, 261, 0, 0, 0, []) rfl
set_option maxRecDepth 20000 in
theorem g122_259  : Y122 d Q 259 lv st σ ↔ Y122 d Q 260 lv (.int 0 :: st) σ := yX_at (.iconst 0, 1, 0, 0, 0, 0, []) rfl
set_option maxRecDepth 20000 in
theorem g122_260 {x : Int32} : Y122 d Q 260 lv [.int x] σ ↔ (x = 0 ∨ x = 1) ∧ Q (some (.int x)) σ := yX_at (.ireturn, 1, 1, 0, 0, 0, []) rfl
set_option maxRecDepth 20000 in
theorem g122_261  : Y122 d Q 261 lv st σ ↔ zldI lv 7 (fun x => Y122 d Q 264 (zs1 7 (.int (x + 1)) lv) st σ) := yX_at (.iinc 7 1, 3, 0, 0, 0, 0, []) rfl
set_option maxRecDepth 20000 in
theorem g122_264  : Y122 d Q 264 lv st σ ↔ Y122 d Q 224 lv st σ := yX_at (.goto (-40), 3, 224, 0, 0, 0, []) rfl
set_option maxRecDepth 20000 in
theorem g122_267  : Y122 d Q 267 lv st σ ↔ zldI lv 5 (fun x => Y122 d Q 270 (zs1 5 (.int (x + 1)) lv) st σ) := yX_at (.iinc 5 1, 3, 0, 0, 0, 0, []) rfl
set_option maxRecDepth 20000 in
theorem g122_270  : Y122 d Q 270 lv st σ ↔ Y122 d Q 11 lv st σ := yX_at (.goto (-259), 3, 11, 0, 0, 0, []) rfl
set_option maxRecDepth 20000 in
theorem g122_273  : Y122 d Q 273 lv st σ ↔ Y122 d Q 274 lv (.int 1 :: st) σ := yX_at (.iconst 1, 1, 0, 0, 0, 0, []) rfl
set_option maxRecDepth 20000 in
theorem g122_274 {x : Int32} : Y122 d Q 274 lv [.int x] σ ↔ (x = 0 ∨ x = 1) ∧ Q (some (.int x)) σ := yX_at (.ireturn, 1, 1, 0, 0, 0, []) rfl
end G122
