def Y60 (d : Nat) (Q : Option Value → zSt → Prop) (pc : Nat) (lv : zLv) (st : List Value) (σ : zSt) : Prop := yX (yE d) ySn zt60 Q pc lv st σ
theorem C60 {d : Nat} {as : List Value} {σ : zSt} {P : Option Value → zSt → Prop} (hl : (lg_sl as).length ≤ 3) (h : Y60 d P 0 (lv_args 0 as) [] σ) : yC (d + 1) 60 as σ P := yC_of (by decide) hl h
section G60
variable {d : Nat} {Q : Option Value → zSt → Prop} {lv : zLv} {st : List Value} {σ : zSt}
theorem g60_0  : Y60 d Q 0 lv st σ ↔ zldR lv 0 (fun x => Y60 d Q 1 lv (.ref x :: st) σ) := yX_at (.aload_n 0, 1, 0, 0, 0, 0, []) rfl
theorem g60_1 {c : Nat} : Y60 d Q 1 lv (.ref c :: st) σ ↔ zK c = 6 ∧ Y60 d Q 4 lv (zfv σ c 1 :: st) σ := yX_at (.getfield 19, 3, 6, 1, 112, 0, []) rfl
theorem g60_4  : Y60 d Q 4 lv st σ ↔ zldI lv 1 (fun x => Y60 d Q 5 lv (.int x :: st) σ) := yX_at (.iload_n 1, 1, 0, 0, 0, 0, []) rfl
theorem g60_5 {v0 : Value} {c : Nat} : Y60 d Q 5 lv (v0 :: .ref c :: st) σ ↔ (zrcv 5 c ∧ zrm st) ∧ ∃ rv σ', yE d 50 [.ref c, v0] σ rv σ' ∧ Y60 d Q 8 lv (rv.toList ++ st) σ' := yX_at (.invokevirtual 77, 3, 50, 1, 116, 0, []) rfl
theorem g60_8 {x : Int32} : Y60 d Q 8 lv (.int x :: st) σ ↔ (x = 0 → Y60 d Q 15 lv st σ) ∧ (¬ x = 0 → Y60 d Q 11 lv st σ) := yX_at (.ifCond .eq 7, 3, 15, 0, 0, 0, []) rfl
theorem g60_11  : Y60 d Q 11 lv st σ ↔ zldI lv 2 (fun x => Y60 d Q 12 lv (.int x :: st) σ) := yX_at (.iload_n 2, 1, 0, 0, 0, 0, []) rfl
theorem g60_12 {x : Int32} : Y60 d Q 12 lv (.int x :: st) σ ↔ (0 ≤ x → Y60 d Q 17 lv st σ) ∧ (¬ 0 ≤ x → Y60 d Q 15 lv st σ) := yX_at (.ifCond .ge 5, 3, 17, 0, 0, 0, []) rfl
theorem g60_15  : Y60 d Q 15 lv st σ ↔ Y60 d Q 16 lv (.int (-1) :: st) σ := by
  rw [show (-1 : Int32) = Int32.ofInt (-1) from by decide]
  exact yX_at (.iconst (-1), 1, 0, 0, 0, 0, []) rfl
theorem g60_16 {x : Int32} : Y60 d Q 16 lv [.int x] σ ↔ Q (some (.int x)) σ := yX_at (.ireturn, 1, 0, 0, 0, 0, []) rfl
theorem g60_17  : Y60 d Q 17 lv st σ ↔ zldI lv 2 (fun x => Y60 d Q 18 lv (.int x :: st) σ) := yX_at (.iload_n 2, 1, 0, 0, 0, 0, []) rfl
theorem g60_18  : Y60 d Q 18 lv st σ ↔ zldR lv 0 (fun x => Y60 d Q 19 lv (.ref x :: st) σ) := yX_at (.aload_n 0, 1, 0, 0, 0, 0, []) rfl
theorem g60_19 {c : Nat} : Y60 d Q 19 lv (.ref c :: st) σ ↔ zK c = 6 ∧ Y60 d Q 22 lv (zfv σ c 3 :: st) σ := yX_at (.getfield 29, 3, 6, 3, 113, 0, []) rfl
theorem g60_22 {c : Nat} : Y60 d Q 22 lv (.ref c :: st) σ ↔ zK c = 2 ∧ Y60 d Q 25 lv (zfv σ c 6 :: st) σ := yX_at (.getfield 91, 3, 2, 6, 120, 0, []) rfl
theorem g60_25  : Y60 d Q 25 lv st σ ↔ zldI lv 1 (fun x => Y60 d Q 26 lv (.int x :: st) σ) := yX_at (.iload_n 1, 1, 0, 0, 0, 0, []) rfl
theorem g60_26 {j : Int32} {c : Nat} : Y60 d Q 26 lv (.int j :: .ref c :: st) σ ↔ (zK c = 100 ∧ vp_in j (zLn c)) ∧ Y60 d Q 27 lv (.int (σ.1 c j.toNatClampNeg) :: st) σ := yX_at (.iaload, 1, 0, 0, 0, 0, []) rfl
theorem g60_27 {x y : Int32} : Y60 d Q 27 lv (.int y :: .int x :: st) σ ↔ (y ≤ x → Y60 d Q 42 lv st σ) ∧ (¬ y ≤ x → Y60 d Q 30 lv st σ) := yX_at (.if_icmp .ge 15, 3, 42, 0, 0, 0, []) rfl
theorem g60_30  : Y60 d Q 30 lv st σ ↔ zldR lv 0 (fun x => Y60 d Q 31 lv (.ref x :: st) σ) := yX_at (.aload_n 0, 1, 0, 0, 0, 0, []) rfl
theorem g60_31 {c : Nat} : Y60 d Q 31 lv (.ref c :: st) σ ↔ zK c = 6 ∧ Y60 d Q 34 lv (zfv σ c 3 :: st) σ := yX_at (.getfield 29, 3, 6, 3, 113, 0, []) rfl
theorem g60_34  : Y60 d Q 34 lv st σ ↔ zldI lv 1 (fun x => Y60 d Q 35 lv (.int x :: st) σ) := yX_at (.iload_n 1, 1, 0, 0, 0, 0, []) rfl
theorem g60_35  : Y60 d Q 35 lv st σ ↔ zldI lv 2 (fun x => Y60 d Q 36 lv (.int x :: st) σ) := yX_at (.iload_n 2, 1, 0, 0, 0, 0, []) rfl
theorem g60_36 {v0 v1 : Value} {c : Nat} : Y60 d Q 36 lv (v1 :: v0 :: .ref c :: st) σ ↔ (zrcv 2 c ∧ zrm st) ∧ ∃ rv σ', yE d 21 [.ref c, v0, v1] σ rv σ' ∧ Y60 d Q 39 lv (rv.toList ++ st) σ' := yX_at (.invokevirtual 121, 3, 21, 2, 130, 0, []) rfl
theorem g60_39  : Y60 d Q 39 lv st σ ↔ Y60 d Q 44 lv st σ := yX_at (.goto 5, 3, 44, 0, 0, 0, []) rfl
theorem g60_42  : Y60 d Q 42 lv st σ ↔ Y60 d Q 44 lv (.int (-5) :: st) σ := by
  rw [show (-5 : Int32) = (Int8.ofInt (-5)).toInt32 from by decide]
  exact yX_at (.bipush (-5), 2, 0, 0, 0, 0, []) rfl
theorem g60_44 {x : Int32} : Y60 d Q 44 lv [.int x] σ ↔ Q (some (.int x)) σ := yX_at (.ireturn, 1, 0, 0, 0, 0, []) rfl
end G60
def Y61 (d : Nat) (Q : Option Value → zSt → Prop) (pc : Nat) (lv : zLv) (st : List Value) (σ : zSt) : Prop := yX (yE d) ySn zt61 Q pc lv st σ
theorem C61 {d : Nat} {as : List Value} {σ : zSt} {P : Option Value → zSt → Prop} (hl : (lg_sl as).length ≤ 3) (h : Y61 d P 0 (lv_args 0 as) [] σ) : yC (d + 1) 61 as σ P := yC_of (by decide) hl h
section G61
variable {d : Nat} {Q : Option Value → zSt → Prop} {lv : zLv} {st : List Value} {σ : zSt}
theorem g61_0  : Y61 d Q 0 lv st σ ↔ zldR lv 0 (fun x => Y61 d Q 1 lv (.ref x :: st) σ) := yX_at (.aload_n 0, 1, 0, 0, 0, 0, []) rfl
theorem g61_1 {c : Nat} : Y61 d Q 1 lv (.ref c :: st) σ ↔ zK c = 6 ∧ Y61 d Q 4 lv (zfv σ c 1 :: st) σ := yX_at (.getfield 19, 3, 6, 1, 112, 0, []) rfl
theorem g61_4  : Y61 d Q 4 lv st σ ↔ zldI lv 1 (fun x => Y61 d Q 5 lv (.int x :: st) σ) := yX_at (.iload_n 1, 1, 0, 0, 0, 0, []) rfl
theorem g61_5 {v0 : Value} {c : Nat} : Y61 d Q 5 lv (v0 :: .ref c :: st) σ ↔ (zrcv 5 c ∧ zrm st) ∧ ∃ rv σ', yE d 51 [.ref c, v0] σ rv σ' ∧ Y61 d Q 8 lv (rv.toList ++ st) σ' := yX_at (.invokevirtual 94, 3, 51, 1, 121, 0, []) rfl
theorem g61_8 {x : Int32} : Y61 d Q 8 lv (.int x :: st) σ ↔ (¬ x = 0 → Y61 d Q 13 lv st σ) ∧ (x = 0 → Y61 d Q 11 lv st σ) := yX_at (.ifCond .ne 5, 3, 13, 0, 0, 0, []) rfl
theorem g61_11  : Y61 d Q 11 lv st σ ↔ Y61 d Q 12 lv (.int (-1) :: st) σ := by
  rw [show (-1 : Int32) = Int32.ofInt (-1) from by decide]
  exact yX_at (.iconst (-1), 1, 0, 0, 0, 0, []) rfl
theorem g61_12 {x : Int32} : Y61 d Q 12 lv [.int x] σ ↔ Q (some (.int x)) σ := yX_at (.ireturn, 1, 0, 0, 0, 0, []) rfl
theorem g61_13  : Y61 d Q 13 lv st σ ↔ zldR lv 0 (fun x => Y61 d Q 14 lv (.ref x :: st) σ) := yX_at (.aload_n 0, 1, 0, 0, 0, 0, []) rfl
theorem g61_14 {c : Nat} : Y61 d Q 14 lv (.ref c :: st) σ ↔ zK c = 6 ∧ Y61 d Q 17 lv (zfv σ c 3 :: st) σ := yX_at (.getfield 29, 3, 6, 3, 113, 0, []) rfl
theorem g61_17 {c : Nat} : Y61 d Q 17 lv (.ref c :: st) σ ↔ zK c = 2 ∧ Y61 d Q 20 lv (zfv σ c 3 :: st) σ := yX_at (.getfield 112, 3, 2, 3, 127, 0, []) rfl
theorem g61_20  : Y61 d Q 20 lv st σ ↔ zldI lv 1 (fun x => Y61 d Q 21 lv (.int x :: st) σ) := yX_at (.iload_n 1, 1, 0, 0, 0, 0, []) rfl
theorem g61_21 {j : Int32} {c : Nat} : Y61 d Q 21 lv (.int j :: .ref c :: st) σ ↔ (zK c = 100 ∧ vp_in j (zLn c)) ∧ Y61 d Q 22 lv (.int (σ.1 c j.toNatClampNeg) :: st) σ := yX_at (.iaload, 1, 0, 0, 0, 0, []) rfl
theorem g61_22 {x : Int32} : Y61 d Q 22 lv (.int x :: st) σ ↔ (¬ x = 0 → Y61 d Q 44 lv st σ) ∧ (x = 0 → Y61 d Q 25 lv st σ) := yX_at (.ifCond .ne 22, 3, 44, 0, 0, 0, []) rfl
theorem g61_25  : Y61 d Q 25 lv st σ ↔ zldR lv 0 (fun x => Y61 d Q 26 lv (.ref x :: st) σ) := yX_at (.aload_n 0, 1, 0, 0, 0, 0, []) rfl
theorem g61_26 {c : Nat} : Y61 d Q 26 lv (.ref c :: st) σ ↔ zK c = 6 ∧ Y61 d Q 29 lv (zfv σ c 1 :: st) σ := yX_at (.getfield 19, 3, 6, 1, 112, 0, []) rfl
theorem g61_29 {c : Nat} : Y61 d Q 29 lv (.ref c :: st) σ ↔ zK c = 5 ∧ Y61 d Q 32 lv (zfv σ c 6 :: st) σ := yX_at (.getfield 100, 3, 5, 6, 123, 0, []) rfl
theorem g61_32  : Y61 d Q 32 lv st σ ↔ zldI lv 1 (fun x => Y61 d Q 33 lv (.int x :: st) σ) := yX_at (.iload_n 1, 1, 0, 0, 0, 0, []) rfl
theorem g61_33 {j : Int32} {c : Nat} : Y61 d Q 33 lv (.int j :: .ref c :: st) σ ↔ (zK c = 100 ∧ vp_in j (zLn c)) ∧ Y61 d Q 34 lv (.int (σ.1 c j.toNatClampNeg) :: st) σ := yX_at (.iaload, 1, 0, 0, 0, 0, []) rfl
theorem g61_34  : Y61 d Q 34 lv st σ ↔ zldR lv 0 (fun x => Y61 d Q 35 lv (.ref x :: st) σ) := yX_at (.aload_n 0, 1, 0, 0, 0, 0, []) rfl
theorem g61_35 {c : Nat} : Y61 d Q 35 lv (.ref c :: st) σ ↔ zK c = 6 ∧ Y61 d Q 38 lv (zfv σ c 3 :: st) σ := yX_at (.getfield 29, 3, 6, 3, 113, 0, []) rfl
theorem g61_38 {c : Nat} : Y61 d Q 38 lv (.ref c :: st) σ ↔ zK c = 2 ∧ Y61 d Q 41 lv (zfv σ c 0 :: st) σ := yX_at (.getfield 125, 3, 2, 0, 131, 0, []) rfl
theorem g61_41 {x y : Int32} : Y61 d Q 41 lv (.int y :: .int x :: st) σ ↔ (x = y → Y61 d Q 47 lv st σ) ∧ (¬ x = y → Y61 d Q 44 lv st σ) := yX_at (.if_icmp .eq 6, 3, 47, 0, 0, 0, []) rfl
theorem g61_44  : Y61 d Q 44 lv st σ ↔ Y61 d Q 46 lv (.int (-2) :: st) σ := by
  rw [show (-2 : Int32) = (Int8.ofInt (-2)).toInt32 from by decide]
  exact yX_at (.bipush (-2), 2, 0, 0, 0, 0, []) rfl
theorem g61_46 {x : Int32} : Y61 d Q 46 lv [.int x] σ ↔ Q (some (.int x)) σ := yX_at (.ireturn, 1, 0, 0, 0, 0, []) rfl
theorem g61_47  : Y61 d Q 47 lv st σ ↔ zldR lv 0 (fun x => Y61 d Q 48 lv (.ref x :: st) σ) := yX_at (.aload_n 0, 1, 0, 0, 0, 0, []) rfl
theorem g61_48 {c : Nat} : Y61 d Q 48 lv (.ref c :: st) σ ↔ zK c = 6 ∧ Y61 d Q 51 lv (zfv σ c 1 :: st) σ := yX_at (.getfield 19, 3, 6, 1, 112, 0, []) rfl
theorem g61_51 {c : Nat} : Y61 d Q 51 lv (.ref c :: st) σ ↔ zK c = 5 ∧ Y61 d Q 54 lv (zfv σ c 5 :: st) σ := yX_at (.getfield 97, 3, 5, 5, 122, 0, []) rfl
theorem g61_54  : Y61 d Q 54 lv st σ ↔ zldI lv 1 (fun x => Y61 d Q 55 lv (.int x :: st) σ) := yX_at (.iload_n 1, 1, 0, 0, 0, 0, []) rfl
theorem g61_55 {j : Int32} {c : Nat} : Y61 d Q 55 lv (.int j :: .ref c :: st) σ ↔ (zK c = 100 ∧ vp_in j (zLn c)) ∧ Y61 d Q 56 lv (.int (σ.1 c j.toNatClampNeg) :: st) σ := yX_at (.iaload, 1, 0, 0, 0, 0, []) rfl
theorem g61_56 {x : Int32} : Y61 d Q 56 lv (.int x :: st) σ ↔ Y61 d Q 57 (zs1 2 (.int x) lv) st σ := yX_at (.istore_n 2, 1, 0, 0, 0, 0, []) rfl
theorem g61_57  : Y61 d Q 57 lv st σ ↔ zldR lv 0 (fun x => Y61 d Q 58 lv (.ref x :: st) σ) := yX_at (.aload_n 0, 1, 0, 0, 0, 0, []) rfl
theorem g61_58  : Y61 d Q 58 lv st σ ↔ zldI lv 2 (fun x => Y61 d Q 59 lv (.int x :: st) σ) := yX_at (.iload_n 2, 1, 0, 0, 0, 0, []) rfl
theorem g61_59 {v0 : Value} {c : Nat} : Y61 d Q 59 lv (v0 :: .ref c :: st) σ ↔ (zrcv 6 c ∧ zrm st) ∧ ∃ rv σ', yE d 82 [.ref c, v0] σ rv σ' ∧ Y61 d Q 62 lv (rv.toList ++ st) σ' := yX_at (.invokevirtual 128, 3, 82, 1, 132, 0, []) rfl
theorem g61_62 {x : Int32} : Y61 d Q 62 lv (.int x :: st) σ ↔ (¬ x = 0 → Y61 d Q 68 lv st σ) ∧ (x = 0 → Y61 d Q 65 lv st σ) := yX_at (.ifCond .ne 6, 3, 68, 0, 0, 0, []) rfl
theorem g61_65  : Y61 d Q 65 lv st σ ↔ Y61 d Q 67 lv (.int (-3) :: st) σ := by
  rw [show (-3 : Int32) = (Int8.ofInt (-3)).toInt32 from by decide]
  exact yX_at (.bipush (-3), 2, 0, 0, 0, 0, []) rfl
theorem g61_67 {x : Int32} : Y61 d Q 67 lv [.int x] σ ↔ Q (some (.int x)) σ := yX_at (.ireturn, 1, 0, 0, 0, 0, []) rfl
theorem g61_68  : Y61 d Q 68 lv st σ ↔ zldR lv 0 (fun x => Y61 d Q 69 lv (.ref x :: st) σ) := yX_at (.aload_n 0, 1, 0, 0, 0, 0, []) rfl
theorem g61_69 {c : Nat} : Y61 d Q 69 lv (.ref c :: st) σ ↔ zK c = 6 ∧ Y61 d Q 72 lv (zfv σ c 3 :: st) σ := yX_at (.getfield 29, 3, 6, 3, 113, 0, []) rfl
theorem g61_72  : Y61 d Q 72 lv st σ ↔ zldI lv 1 (fun x => Y61 d Q 73 lv (.int x :: st) σ) := yX_at (.iload_n 1, 1, 0, 0, 0, 0, []) rfl
theorem g61_73 {v0 : Value} {c : Nat} : Y61 d Q 73 lv (v0 :: .ref c :: st) σ ↔ (zrcv 2 c ∧ zrm st) ∧ ∃ rv σ', yE d 27 [.ref c, v0] σ rv σ' ∧ Y61 d Q 76 lv (rv.toList ++ st) σ' := yX_at (.invokevirtual 131, 3, 27, 1, 133, 0, []) rfl
theorem g61_76  : Y61 d Q 76 lv st σ ↔ zldR lv 0 (fun x => Y61 d Q 77 lv (.ref x :: st) σ) := yX_at (.aload_n 0, 1, 0, 0, 0, 0, []) rfl
theorem g61_77 {c : Nat} : Y61 d Q 77 lv (.ref c :: st) σ ↔ zK c = 6 ∧ Y61 d Q 80 lv (zfv σ c 3 :: st) σ := yX_at (.getfield 29, 3, 6, 3, 113, 0, []) rfl
theorem g61_80  : Y61 d Q 80 lv st σ ↔ zldI lv 1 (fun x => Y61 d Q 81 lv (.int x :: st) σ) := yX_at (.iload_n 1, 1, 0, 0, 0, 0, []) rfl
theorem g61_81  : Y61 d Q 81 lv st σ ↔ zldI lv 2 (fun x => Y61 d Q 82 lv (.int x :: st) σ) := yX_at (.iload_n 2, 1, 0, 0, 0, 0, []) rfl
theorem g61_82  : Y61 d Q 82 lv st σ ↔ zldR lv 0 (fun x => Y61 d Q 83 lv (.ref x :: st) σ) := yX_at (.aload_n 0, 1, 0, 0, 0, 0, []) rfl
theorem g61_83 {c : Nat} : Y61 d Q 83 lv (.ref c :: st) σ ↔ zK c = 6 ∧ Y61 d Q 86 lv (zfv σ c 3 :: st) σ := yX_at (.getfield 29, 3, 6, 3, 113, 0, []) rfl
theorem g61_86 {c : Nat} : Y61 d Q 86 lv (.ref c :: st) σ ↔ zK c = 2 ∧ Y61 d Q 89 lv (zfv σ c 6 :: st) σ := yX_at (.getfield 91, 3, 2, 6, 120, 0, []) rfl
theorem g61_89  : Y61 d Q 89 lv st σ ↔ zldI lv 2 (fun x => Y61 d Q 90 lv (.int x :: st) σ) := yX_at (.iload_n 2, 1, 0, 0, 0, 0, []) rfl
theorem g61_90 {j : Int32} {c : Nat} : Y61 d Q 90 lv (.int j :: .ref c :: st) σ ↔ (zK c = 100 ∧ vp_in j (zLn c)) ∧ Y61 d Q 91 lv (.int (σ.1 c j.toNatClampNeg) :: st) σ := yX_at (.iaload, 1, 0, 0, 0, 0, []) rfl
theorem g61_91  : Y61 d Q 91 lv st σ ↔ zldR lv 0 (fun x => Y61 d Q 92 lv (.ref x :: st) σ) := yX_at (.aload_n 0, 1, 0, 0, 0, 0, []) rfl
theorem g61_92 {c : Nat} : Y61 d Q 92 lv (.ref c :: st) σ ↔ zK c = 6 ∧ Y61 d Q 95 lv (zfv σ c 1 :: st) σ := yX_at (.getfield 19, 3, 6, 1, 112, 0, []) rfl
theorem g61_95 {c : Nat} : Y61 d Q 95 lv (.ref c :: st) σ ↔ zK c = 5 ∧ Y61 d Q 98 lv (zfv σ c 7 :: st) σ := yX_at (.getfield 103, 3, 5, 7, 124, 0, []) rfl
theorem g61_98  : Y61 d Q 98 lv st σ ↔ zldI lv 1 (fun x => Y61 d Q 99 lv (.int x :: st) σ) := yX_at (.iload_n 1, 1, 0, 0, 0, 0, []) rfl
theorem g61_99 {j : Int32} {c : Nat} : Y61 d Q 99 lv (.int j :: .ref c :: st) σ ↔ (zK c = 100 ∧ vp_in j (zLn c)) ∧ Y61 d Q 100 lv (.int (σ.1 c j.toNatClampNeg) :: st) σ := yX_at (.iaload, 1, 0, 0, 0, 0, []) rfl
theorem g61_100 {v0 v1 v2 v3 : Value} {c : Nat} : Y61 d Q 100 lv (v3 :: v2 :: v1 :: v0 :: .ref c :: st) σ ↔ (zrcv 2 c ∧ zrm st) ∧ ∃ rv σ', yE d 24 [.ref c, v0, v1, v2, v3] σ rv σ' ∧ Y61 d Q 103 lv (rv.toList ++ st) σ' := yX_at (.invokevirtual 135, 3, 24, 4, 134, 0, []) rfl
theorem g61_103  : Y61 d Q 103 lv st σ ↔ zldR lv 0 (fun x => Y61 d Q 104 lv (.ref x :: st) σ) := yX_at (.aload_n 0, 1, 0, 0, 0, 0, []) rfl
theorem g61_104 {c : Nat} : Y61 d Q 104 lv (.ref c :: st) σ ↔ zK c = 6 ∧ Y61 d Q 107 lv (zfv σ c 3 :: st) σ := yX_at (.getfield 29, 3, 6, 3, 113, 0, []) rfl
theorem g61_107 {c : Nat} : Y61 d Q 107 lv (.ref c :: st) σ ↔ zK c = 2 ∧ Y61 d Q 110 lv (zfv σ c 6 :: st) σ := yX_at (.getfield 91, 3, 2, 6, 120, 0, []) rfl
theorem g61_110  : Y61 d Q 110 lv st σ ↔ zldI lv 2 (fun x => Y61 d Q 111 lv (.int x :: st) σ) := yX_at (.iload_n 2, 1, 0, 0, 0, 0, []) rfl
theorem g61_111 {j : Int32} {c : Nat} : Y61 d Q 111 lv (.int j :: .ref c :: st) σ ↔ (zK c = 100 ∧ vp_in j (zLn c)) ∧ Y61 d Q 112 lv (.int (σ.1 c j.toNatClampNeg) :: st) σ := yX_at (.iaload, 1, 0, 0, 0, 0, []) rfl
theorem g61_112 {x : Int32} : Y61 d Q 112 lv [.int x] σ ↔ Q (some (.int x)) σ := yX_at (.ireturn, 1, 0, 0, 0, 0, []) rfl
end G61
def Y62 (d : Nat) (Q : Option Value → zSt → Prop) (pc : Nat) (lv : zLv) (st : List Value) (σ : zSt) : Prop := yX (yE d) ySn zt62 Q pc lv st σ
theorem C62 {d : Nat} {as : List Value} {σ : zSt} {P : Option Value → zSt → Prop} (hl : (lg_sl as).length ≤ 3) (h : Y62 d P 0 (lv_args 0 as) [] σ) : yC (d + 1) 62 as σ P := yC_of (by decide) hl h
section G62
variable {d : Nat} {Q : Option Value → zSt → Prop} {lv : zLv} {st : List Value} {σ : zSt}
theorem g62_0  : Y62 d Q 0 lv st σ ↔ zldR lv 0 (fun x => Y62 d Q 1 lv (.ref x :: st) σ) := yX_at (.aload_n 0, 1, 0, 0, 0, 0, []) rfl
theorem g62_1 {c : Nat} : Y62 d Q 1 lv (.ref c :: st) σ ↔ zK c = 6 ∧ Y62 d Q 4 lv (zfv σ c 1 :: st) σ := yX_at (.getfield 19, 3, 6, 1, 112, 0, []) rfl
theorem g62_4  : Y62 d Q 4 lv st σ ↔ zldI lv 1 (fun x => Y62 d Q 5 lv (.int x :: st) σ) := yX_at (.iload_n 1, 1, 0, 0, 0, 0, []) rfl
theorem g62_5 {v0 : Value} {c : Nat} : Y62 d Q 5 lv (v0 :: .ref c :: st) σ ↔ (zrcv 5 c ∧ zrm st) ∧ ∃ rv σ', yE d 51 [.ref c, v0] σ rv σ' ∧ Y62 d Q 8 lv (rv.toList ++ st) σ' := yX_at (.invokevirtual 94, 3, 51, 1, 121, 0, []) rfl
theorem g62_8 {x : Int32} : Y62 d Q 8 lv (.int x :: st) σ ↔ (¬ x = 0 → Y62 d Q 13 lv st σ) ∧ (x = 0 → Y62 d Q 11 lv st σ) := yX_at (.ifCond .ne 5, 3, 13, 0, 0, 0, []) rfl
theorem g62_11  : Y62 d Q 11 lv st σ ↔ Y62 d Q 12 lv (.int (-1) :: st) σ := by
  rw [show (-1 : Int32) = Int32.ofInt (-1) from by decide]
  exact yX_at (.iconst (-1), 1, 0, 0, 0, 0, []) rfl
theorem g62_12 {x : Int32} : Y62 d Q 12 lv [.int x] σ ↔ Q (some (.int x)) σ := yX_at (.ireturn, 1, 0, 0, 0, 0, []) rfl
theorem g62_13  : Y62 d Q 13 lv st σ ↔ zldR lv 0 (fun x => Y62 d Q 14 lv (.ref x :: st) σ) := yX_at (.aload_n 0, 1, 0, 0, 0, 0, []) rfl
theorem g62_14 {c : Nat} : Y62 d Q 14 lv (.ref c :: st) σ ↔ zK c = 6 ∧ Y62 d Q 17 lv (zfv σ c 3 :: st) σ := yX_at (.getfield 29, 3, 6, 3, 113, 0, []) rfl
theorem g62_17 {c : Nat} : Y62 d Q 17 lv (.ref c :: st) σ ↔ zK c = 2 ∧ Y62 d Q 20 lv (zfv σ c 3 :: st) σ := yX_at (.getfield 112, 3, 2, 3, 127, 0, []) rfl
theorem g62_20  : Y62 d Q 20 lv st σ ↔ zldI lv 1 (fun x => Y62 d Q 21 lv (.int x :: st) σ) := yX_at (.iload_n 1, 1, 0, 0, 0, 0, []) rfl
theorem g62_21 {j : Int32} {c : Nat} : Y62 d Q 21 lv (.int j :: .ref c :: st) σ ↔ (zK c = 100 ∧ vp_in j (zLn c)) ∧ Y62 d Q 22 lv (.int (σ.1 c j.toNatClampNeg) :: st) σ := yX_at (.iaload, 1, 0, 0, 0, 0, []) rfl
theorem g62_22  : Y62 d Q 22 lv st σ ↔ Y62 d Q 23 lv (.int 1 :: st) σ := yX_at (.iconst 1, 1, 0, 0, 0, 0, []) rfl
theorem g62_23 {x y : Int32} : Y62 d Q 23 lv (.int y :: .int x :: st) σ ↔ (x = y → Y62 d Q 29 lv st σ) ∧ (¬ x = y → Y62 d Q 26 lv st σ) := yX_at (.if_icmp .eq 6, 3, 29, 0, 0, 0, []) rfl
theorem g62_26  : Y62 d Q 26 lv st σ ↔ Y62 d Q 28 lv (.int (-2) :: st) σ := by
  rw [show (-2 : Int32) = (Int8.ofInt (-2)).toInt32 from by decide]
  exact yX_at (.bipush (-2), 2, 0, 0, 0, 0, []) rfl
theorem g62_28 {x : Int32} : Y62 d Q 28 lv [.int x] σ ↔ Q (some (.int x)) σ := yX_at (.ireturn, 1, 0, 0, 0, 0, []) rfl
theorem g62_29  : Y62 d Q 29 lv st σ ↔ zldR lv 0 (fun x => Y62 d Q 30 lv (.ref x :: st) σ) := yX_at (.aload_n 0, 1, 0, 0, 0, 0, []) rfl
theorem g62_30 {c : Nat} : Y62 d Q 30 lv (.ref c :: st) σ ↔ zK c = 6 ∧ Y62 d Q 33 lv (zfv σ c 3 :: st) σ := yX_at (.getfield 29, 3, 6, 3, 113, 0, []) rfl
theorem g62_33 {c : Nat} : Y62 d Q 33 lv (.ref c :: st) σ ↔ zK c = 2 ∧ Y62 d Q 36 lv (zfv σ c 4 :: st) σ := yX_at (.getfield 115, 3, 2, 4, 128, 0, []) rfl
theorem g62_36  : Y62 d Q 36 lv st σ ↔ zldI lv 1 (fun x => Y62 d Q 37 lv (.int x :: st) σ) := yX_at (.iload_n 1, 1, 0, 0, 0, 0, []) rfl
theorem g62_37 {j : Int32} {c : Nat} : Y62 d Q 37 lv (.int j :: .ref c :: st) σ ↔ (zK c = 100 ∧ vp_in j (zLn c)) ∧ Y62 d Q 38 lv (.int (σ.1 c j.toNatClampNeg) :: st) σ := yX_at (.iaload, 1, 0, 0, 0, 0, []) rfl
theorem g62_38 {x : Int32} : Y62 d Q 38 lv (.int x :: st) σ ↔ Y62 d Q 39 (zs1 2 (.int x) lv) st σ := yX_at (.istore_n 2, 1, 0, 0, 0, 0, []) rfl
theorem g62_39  : Y62 d Q 39 lv st σ ↔ zldR lv 0 (fun x => Y62 d Q 40 lv (.ref x :: st) σ) := yX_at (.aload_n 0, 1, 0, 0, 0, 0, []) rfl
theorem g62_40 {c : Nat} : Y62 d Q 40 lv (.ref c :: st) σ ↔ zK c = 6 ∧ Y62 d Q 43 lv (zfv σ c 3 :: st) σ := yX_at (.getfield 29, 3, 6, 3, 113, 0, []) rfl
theorem g62_43  : Y62 d Q 43 lv st σ ↔ zldI lv 1 (fun x => Y62 d Q 44 lv (.int x :: st) σ) := yX_at (.iload_n 1, 1, 0, 0, 0, 0, []) rfl
theorem g62_44 {v0 : Value} {c : Nat} : Y62 d Q 44 lv (v0 :: .ref c :: st) σ ↔ (zrcv 2 c ∧ zrm st) ∧ ∃ rv σ', yE d 27 [.ref c, v0] σ rv σ' ∧ Y62 d Q 47 lv (rv.toList ++ st) σ' := yX_at (.invokevirtual 131, 3, 27, 1, 133, 0, []) rfl
theorem g62_47  : Y62 d Q 47 lv st σ ↔ zldR lv 0 (fun x => Y62 d Q 48 lv (.ref x :: st) σ) := yX_at (.aload_n 0, 1, 0, 0, 0, 0, []) rfl
theorem g62_48 {c : Nat} : Y62 d Q 48 lv (.ref c :: st) σ ↔ zK c = 6 ∧ Y62 d Q 51 lv (zfv σ c 3 :: st) σ := yX_at (.getfield 29, 3, 6, 3, 113, 0, []) rfl
theorem g62_51  : Y62 d Q 51 lv st σ ↔ zldI lv 1 (fun x => Y62 d Q 52 lv (.int x :: st) σ) := yX_at (.iload_n 1, 1, 0, 0, 0, 0, []) rfl
theorem g62_52  : Y62 d Q 52 lv st σ ↔ Y62 d Q 53 lv (.int 3 :: st) σ := yX_at (.iconst 3, 1, 0, 0, 0, 0, []) rfl
theorem g62_53 {v0 v1 : Value} {c : Nat} : Y62 d Q 53 lv (v1 :: v0 :: .ref c :: st) σ ↔ (zrcv 2 c ∧ zrm st) ∧ ∃ rv σ', yE d 25 [.ref c, v0, v1] σ rv σ' ∧ Y62 d Q 56 lv (rv.toList ++ st) σ' := yX_at (.invokevirtual 139, 3, 25, 2, 135, 0, []) rfl
theorem g62_56  : Y62 d Q 56 lv st σ ↔ zldI lv 2 (fun x => Y62 d Q 57 lv (.int x :: st) σ) := yX_at (.iload_n 2, 1, 0, 0, 0, 0, []) rfl
theorem g62_57 {x : Int32} : Y62 d Q 57 lv [.int x] σ ↔ Q (some (.int x)) σ := yX_at (.ireturn, 1, 0, 0, 0, 0, []) rfl
end G62
def Y63 (d : Nat) (Q : Option Value → zSt → Prop) (pc : Nat) (lv : zLv) (st : List Value) (σ : zSt) : Prop := yX (yE d) ySn zt63 Q pc lv st σ
theorem C63 {d : Nat} {as : List Value} {σ : zSt} {P : Option Value → zSt → Prop} (hl : (lg_sl as).length ≤ 2) (h : Y63 d P 0 (lv_args 0 as) [] σ) : yC (d + 1) 63 as σ P := yC_of (by decide) hl h
section G63
variable {d : Nat} {Q : Option Value → zSt → Prop} {lv : zLv} {st : List Value} {σ : zSt}
theorem g63_0  : Y63 d Q 0 lv st σ ↔ zldR lv 0 (fun x => Y63 d Q 1 lv (.ref x :: st) σ) := yX_at (.aload_n 0, 1, 0, 0, 0, 0, []) rfl
theorem g63_1 {c : Nat} : Y63 d Q 1 lv (.ref c :: st) σ ↔ zK c = 6 ∧ Y63 d Q 4 lv (zfv σ c 1 :: st) σ := yX_at (.getfield 19, 3, 6, 1, 112, 0, []) rfl
theorem g63_4  : Y63 d Q 4 lv st σ ↔ zldI lv 1 (fun x => Y63 d Q 5 lv (.int x :: st) σ) := yX_at (.iload_n 1, 1, 0, 0, 0, 0, []) rfl
theorem g63_5 {v0 : Value} {c : Nat} : Y63 d Q 5 lv (v0 :: .ref c :: st) σ ↔ (zrcv 5 c ∧ zrm st) ∧ ∃ rv σ', yE d 51 [.ref c, v0] σ rv σ' ∧ Y63 d Q 8 lv (rv.toList ++ st) σ' := yX_at (.invokevirtual 94, 3, 51, 1, 121, 0, []) rfl
theorem g63_8 {x : Int32} : Y63 d Q 8 lv (.int x :: st) σ ↔ (¬ x = 0 → Y63 d Q 13 lv st σ) ∧ (x = 0 → Y63 d Q 11 lv st σ) := yX_at (.ifCond .ne 5, 3, 13, 0, 0, 0, []) rfl
theorem g63_11  : Y63 d Q 11 lv st σ ↔ Y63 d Q 12 lv (.int (-1) :: st) σ := by
  rw [show (-1 : Int32) = Int32.ofInt (-1) from by decide]
  exact yX_at (.iconst (-1), 1, 0, 0, 0, 0, []) rfl
theorem g63_12 {x : Int32} : Y63 d Q 12 lv [.int x] σ ↔ Q (some (.int x)) σ := yX_at (.ireturn, 1, 0, 0, 0, 0, []) rfl
theorem g63_13  : Y63 d Q 13 lv st σ ↔ zldR lv 0 (fun x => Y63 d Q 14 lv (.ref x :: st) σ) := yX_at (.aload_n 0, 1, 0, 0, 0, 0, []) rfl
theorem g63_14 {c : Nat} : Y63 d Q 14 lv (.ref c :: st) σ ↔ zK c = 6 ∧ Y63 d Q 17 lv (zfv σ c 3 :: st) σ := yX_at (.getfield 29, 3, 6, 3, 113, 0, []) rfl
theorem g63_17 {c : Nat} : Y63 d Q 17 lv (.ref c :: st) σ ↔ zK c = 2 ∧ Y63 d Q 20 lv (zfv σ c 3 :: st) σ := yX_at (.getfield 112, 3, 2, 3, 127, 0, []) rfl
theorem g63_20  : Y63 d Q 20 lv st σ ↔ zldI lv 1 (fun x => Y63 d Q 21 lv (.int x :: st) σ) := yX_at (.iload_n 1, 1, 0, 0, 0, 0, []) rfl
theorem g63_21 {j : Int32} {c : Nat} : Y63 d Q 21 lv (.int j :: .ref c :: st) σ ↔ (zK c = 100 ∧ vp_in j (zLn c)) ∧ Y63 d Q 22 lv (.int (σ.1 c j.toNatClampNeg) :: st) σ := yX_at (.iaload, 1, 0, 0, 0, 0, []) rfl
theorem g63_22  : Y63 d Q 22 lv st σ ↔ Y63 d Q 23 lv (.int 1 :: st) σ := yX_at (.iconst 1, 1, 0, 0, 0, 0, []) rfl
theorem g63_23 {x y : Int32} : Y63 d Q 23 lv (.int y :: .int x :: st) σ ↔ (x = y → Y63 d Q 29 lv st σ) ∧ (¬ x = y → Y63 d Q 26 lv st σ) := yX_at (.if_icmp .eq 6, 3, 29, 0, 0, 0, []) rfl
theorem g63_26  : Y63 d Q 26 lv st σ ↔ Y63 d Q 28 lv (.int (-2) :: st) σ := by
  rw [show (-2 : Int32) = (Int8.ofInt (-2)).toInt32 from by decide]
  exact yX_at (.bipush (-2), 2, 0, 0, 0, 0, []) rfl
theorem g63_28 {x : Int32} : Y63 d Q 28 lv [.int x] σ ↔ Q (some (.int x)) σ := yX_at (.ireturn, 1, 0, 0, 0, 0, []) rfl
theorem g63_29  : Y63 d Q 29 lv st σ ↔ zldR lv 0 (fun x => Y63 d Q 30 lv (.ref x :: st) σ) := yX_at (.aload_n 0, 1, 0, 0, 0, 0, []) rfl
theorem g63_30 {c : Nat} : Y63 d Q 30 lv (.ref c :: st) σ ↔ zK c = 6 ∧ Y63 d Q 33 lv (zfv σ c 3 :: st) σ := yX_at (.getfield 29, 3, 6, 3, 113, 0, []) rfl
theorem g63_33  : Y63 d Q 33 lv st σ ↔ zldI lv 1 (fun x => Y63 d Q 34 lv (.int x :: st) σ) := yX_at (.iload_n 1, 1, 0, 0, 0, 0, []) rfl
theorem g63_34 {v0 : Value} {c : Nat} : Y63 d Q 34 lv (v0 :: .ref c :: st) σ ↔ (zrcv 2 c ∧ zrm st) ∧ ∃ rv σ', yE d 27 [.ref c, v0] σ rv σ' ∧ Y63 d Q 37 lv (rv.toList ++ st) σ' := yX_at (.invokevirtual 131, 3, 27, 1, 133, 0, []) rfl
theorem g63_37  : Y63 d Q 37 lv st σ ↔ zldR lv 0 (fun x => Y63 d Q 38 lv (.ref x :: st) σ) := yX_at (.aload_n 0, 1, 0, 0, 0, 0, []) rfl
theorem g63_38 {c : Nat} : Y63 d Q 38 lv (.ref c :: st) σ ↔ zK c = 6 ∧ Y63 d Q 41 lv (zfv σ c 3 :: st) σ := yX_at (.getfield 29, 3, 6, 3, 113, 0, []) rfl
theorem g63_41  : Y63 d Q 41 lv st σ ↔ zldI lv 1 (fun x => Y63 d Q 42 lv (.int x :: st) σ) := yX_at (.iload_n 1, 1, 0, 0, 0, 0, []) rfl
theorem g63_42  : Y63 d Q 42 lv st σ ↔ Y63 d Q 43 lv (.int 3 :: st) σ := yX_at (.iconst 3, 1, 0, 0, 0, 0, []) rfl
theorem g63_43 {v0 v1 : Value} {c : Nat} : Y63 d Q 43 lv (v1 :: v0 :: .ref c :: st) σ ↔ (zrcv 2 c ∧ zrm st) ∧ ∃ rv σ', yE d 25 [.ref c, v0, v1] σ rv σ' ∧ Y63 d Q 46 lv (rv.toList ++ st) σ' := yX_at (.invokevirtual 139, 3, 25, 2, 135, 0, []) rfl
theorem g63_46  : Y63 d Q 46 lv st σ ↔ zldR lv 0 (fun x => Y63 d Q 47 lv (.ref x :: st) σ) := yX_at (.aload_n 0, 1, 0, 0, 0, 0, []) rfl
theorem g63_47 {c : Nat} : Y63 d Q 47 lv (.ref c :: st) σ ↔ zK c = 6 ∧ Y63 d Q 50 lv (zfv σ c 3 :: st) σ := yX_at (.getfield 29, 3, 6, 3, 113, 0, []) rfl
theorem g63_50  : Y63 d Q 50 lv st σ ↔ zdup st (fun r => Y63 d Q 51 lv r σ) := yX_at (.dup, 1, 0, 0, 0, 0, []) rfl
theorem g63_51 {c : Nat} : Y63 d Q 51 lv (.ref c :: st) σ ↔ zK c = 2 ∧ Y63 d Q 54 lv (zfv σ c 2 :: st) σ := yX_at (.getfield 143, 3, 2, 2, 136, 0, []) rfl
theorem g63_54  : Y63 d Q 54 lv st σ ↔ zldR lv 0 (fun x => Y63 d Q 55 lv (.ref x :: st) σ) := yX_at (.aload_n 0, 1, 0, 0, 0, 0, []) rfl
theorem g63_55 {c : Nat} : Y63 d Q 55 lv (.ref c :: st) σ ↔ zK c = 6 ∧ Y63 d Q 58 lv (zfv σ c 1 :: st) σ := yX_at (.getfield 19, 3, 6, 1, 112, 0, []) rfl
theorem g63_58 {c : Nat} : Y63 d Q 58 lv (.ref c :: st) σ ↔ zK c = 5 ∧ Y63 d Q 61 lv (zfv σ c 8 :: st) σ := yX_at (.getfield 106, 3, 5, 8, 125, 0, []) rfl
theorem g63_61  : Y63 d Q 61 lv st σ ↔ zldI lv 1 (fun x => Y63 d Q 62 lv (.int x :: st) σ) := yX_at (.iload_n 1, 1, 0, 0, 0, 0, []) rfl
theorem g63_62 {j : Int32} {c : Nat} : Y63 d Q 62 lv (.int j :: .ref c :: st) σ ↔ (zK c = 100 ∧ vp_in j (zLn c)) ∧ Y63 d Q 63 lv (.int (σ.1 c j.toNatClampNeg) :: st) σ := yX_at (.iaload, 1, 0, 0, 0, 0, []) rfl
theorem g63_63 {x y : Int32} : Y63 d Q 63 lv (.int y :: .int x :: st) σ ↔ Y63 d Q 64 lv (.int (x + y) :: st) σ := yX_at (.iadd, 1, 0, 0, 0, 0, []) rfl
theorem g63_64 {x : Int32} {c : Nat} : Y63 d Q 64 lv (.int x :: .ref c :: st) σ ↔ zK c = 2 ∧ Y63 d Q 67 lv st (zwI σ c 2 x) := yX_at (.putfield 143, 3, 2, 2, 136, 0, []) rfl
theorem g63_67  : Y63 d Q 67 lv st σ ↔ zldR lv 0 (fun x => Y63 d Q 68 lv (.ref x :: st) σ) := yX_at (.aload_n 0, 1, 0, 0, 0, 0, []) rfl
theorem g63_68 {c : Nat} : Y63 d Q 68 lv (.ref c :: st) σ ↔ zK c = 6 ∧ Y63 d Q 71 lv (zfv σ c 1 :: st) σ := yX_at (.getfield 19, 3, 6, 1, 112, 0, []) rfl
theorem g63_71 {c : Nat} : Y63 d Q 71 lv (.ref c :: st) σ ↔ zK c = 5 ∧ Y63 d Q 74 lv (zfv σ c 8 :: st) σ := yX_at (.getfield 106, 3, 5, 8, 125, 0, []) rfl
theorem g63_74  : Y63 d Q 74 lv st σ ↔ zldI lv 1 (fun x => Y63 d Q 75 lv (.int x :: st) σ) := yX_at (.iload_n 1, 1, 0, 0, 0, 0, []) rfl
theorem g63_75 {j : Int32} {c : Nat} : Y63 d Q 75 lv (.int j :: .ref c :: st) σ ↔ (zK c = 100 ∧ vp_in j (zLn c)) ∧ Y63 d Q 76 lv (.int (σ.1 c j.toNatClampNeg) :: st) σ := yX_at (.iaload, 1, 0, 0, 0, 0, []) rfl
theorem g63_76 {x : Int32} : Y63 d Q 76 lv [.int x] σ ↔ Q (some (.int x)) σ := yX_at (.ireturn, 1, 0, 0, 0, 0, []) rfl
end G63
def Y64 (d : Nat) (Q : Option Value → zSt → Prop) (pc : Nat) (lv : zLv) (st : List Value) (σ : zSt) : Prop := yX (yE d) ySn zt64 Q pc lv st σ
theorem C64 {d : Nat} {as : List Value} {σ : zSt} {P : Option Value → zSt → Prop} (hl : (lg_sl as).length ≤ 4) (h : Y64 d P 0 (lv_args 0 as) [] σ) : yC (d + 1) 64 as σ P := yC_of (by decide) hl h
section G64
variable {d : Nat} {Q : Option Value → zSt → Prop} {lv : zLv} {st : List Value} {σ : zSt}
theorem g64_0  : Y64 d Q 0 lv st σ ↔ zldR lv 0 (fun x => Y64 d Q 1 lv (.ref x :: st) σ) := yX_at (.aload_n 0, 1, 0, 0, 0, 0, []) rfl
theorem g64_1 {c : Nat} : Y64 d Q 1 lv (.ref c :: st) σ ↔ zK c = 6 ∧ Y64 d Q 4 lv (zfv σ c 1 :: st) σ := yX_at (.getfield 19, 3, 6, 1, 112, 0, []) rfl
theorem g64_4  : Y64 d Q 4 lv st σ ↔ zldI lv 1 (fun x => Y64 d Q 5 lv (.int x :: st) σ) := yX_at (.iload_n 1, 1, 0, 0, 0, 0, []) rfl
theorem g64_5 {v0 : Value} {c : Nat} : Y64 d Q 5 lv (v0 :: .ref c :: st) σ ↔ (zrcv 5 c ∧ zrm st) ∧ ∃ rv σ', yE d 51 [.ref c, v0] σ rv σ' ∧ Y64 d Q 8 lv (rv.toList ++ st) σ' := yX_at (.invokevirtual 94, 3, 51, 1, 121, 0, []) rfl
theorem g64_8 {x : Int32} : Y64 d Q 8 lv (.int x :: st) σ ↔ (x = 0 → Y64 d Q 22 lv st σ) ∧ (¬ x = 0 → Y64 d Q 11 lv st σ) := yX_at (.ifCond .eq 14, 3, 22, 0, 0, 0, []) rfl
theorem g64_11  : Y64 d Q 11 lv st σ ↔ zldR lv 0 (fun x => Y64 d Q 12 lv (.ref x :: st) σ) := yX_at (.aload_n 0, 1, 0, 0, 0, 0, []) rfl
theorem g64_12 {c : Nat} : Y64 d Q 12 lv (.ref c :: st) σ ↔ zK c = 6 ∧ Y64 d Q 15 lv (zfv σ c 1 :: st) σ := yX_at (.getfield 19, 3, 6, 1, 112, 0, []) rfl
theorem g64_15  : Y64 d Q 15 lv st σ ↔ zldI lv 2 (fun x => Y64 d Q 16 lv (.int x :: st) σ) := yX_at (.iload_n 2, 1, 0, 0, 0, 0, []) rfl
theorem g64_16 {v0 : Value} {c : Nat} : Y64 d Q 16 lv (v0 :: .ref c :: st) σ ↔ (zrcv 5 c ∧ zrm st) ∧ ∃ rv σ', yE d 50 [.ref c, v0] σ rv σ' ∧ Y64 d Q 19 lv (rv.toList ++ st) σ' := yX_at (.invokevirtual 77, 3, 50, 1, 116, 0, []) rfl
theorem g64_19 {x : Int32} : Y64 d Q 19 lv (.int x :: st) σ ↔ (¬ x = 0 → Y64 d Q 24 lv st σ) ∧ (x = 0 → Y64 d Q 22 lv st σ) := yX_at (.ifCond .ne 5, 3, 24, 0, 0, 0, []) rfl
theorem g64_22  : Y64 d Q 22 lv st σ ↔ Y64 d Q 23 lv (.int (-1) :: st) σ := by
  rw [show (-1 : Int32) = Int32.ofInt (-1) from by decide]
  exact yX_at (.iconst (-1), 1, 0, 0, 0, 0, []) rfl
theorem g64_23 {x : Int32} : Y64 d Q 23 lv [.int x] σ ↔ Q (some (.int x)) σ := yX_at (.ireturn, 1, 0, 0, 0, 0, []) rfl
theorem g64_24  : Y64 d Q 24 lv st σ ↔ zldR lv 0 (fun x => Y64 d Q 25 lv (.ref x :: st) σ) := yX_at (.aload_n 0, 1, 0, 0, 0, 0, []) rfl
theorem g64_25 {c : Nat} : Y64 d Q 25 lv (.ref c :: st) σ ↔ zK c = 6 ∧ Y64 d Q 28 lv (zfv σ c 3 :: st) σ := yX_at (.getfield 29, 3, 6, 3, 113, 0, []) rfl
theorem g64_28 {c : Nat} : Y64 d Q 28 lv (.ref c :: st) σ ↔ zK c = 2 ∧ Y64 d Q 31 lv (zfv σ c 3 :: st) σ := yX_at (.getfield 112, 3, 2, 3, 127, 0, []) rfl
theorem g64_31  : Y64 d Q 31 lv st σ ↔ zldI lv 1 (fun x => Y64 d Q 32 lv (.int x :: st) σ) := yX_at (.iload_n 1, 1, 0, 0, 0, 0, []) rfl
theorem g64_32 {j : Int32} {c : Nat} : Y64 d Q 32 lv (.int j :: .ref c :: st) σ ↔ (zK c = 100 ∧ vp_in j (zLn c)) ∧ Y64 d Q 33 lv (.int (σ.1 c j.toNatClampNeg) :: st) σ := yX_at (.iaload, 1, 0, 0, 0, 0, []) rfl
theorem g64_33  : Y64 d Q 33 lv st σ ↔ Y64 d Q 34 lv (.int 1 :: st) σ := yX_at (.iconst 1, 1, 0, 0, 0, 0, []) rfl
theorem g64_34 {x y : Int32} : Y64 d Q 34 lv (.int y :: .int x :: st) σ ↔ (¬ x = y → Y64 d Q 50 lv st σ) ∧ (x = y → Y64 d Q 37 lv st σ) := yX_at (.if_icmp .ne 16, 3, 50, 0, 0, 0, []) rfl
theorem g64_37  : Y64 d Q 37 lv st σ ↔ zldR lv 0 (fun x => Y64 d Q 38 lv (.ref x :: st) σ) := yX_at (.aload_n 0, 1, 0, 0, 0, 0, []) rfl
theorem g64_38 {c : Nat} : Y64 d Q 38 lv (.ref c :: st) σ ↔ zK c = 6 ∧ Y64 d Q 41 lv (zfv σ c 3 :: st) σ := yX_at (.getfield 29, 3, 6, 3, 113, 0, []) rfl
theorem g64_41 {c : Nat} : Y64 d Q 41 lv (.ref c :: st) σ ↔ zK c = 2 ∧ Y64 d Q 44 lv (zfv σ c 5 :: st) σ := yX_at (.getfield 118, 3, 2, 5, 129, 0, []) rfl
theorem g64_44  : Y64 d Q 44 lv st σ ↔ zldI lv 1 (fun x => Y64 d Q 45 lv (.int x :: st) σ) := yX_at (.iload_n 1, 1, 0, 0, 0, 0, []) rfl
theorem g64_45 {j : Int32} {c : Nat} : Y64 d Q 45 lv (.int j :: .ref c :: st) σ ↔ (zK c = 100 ∧ vp_in j (zLn c)) ∧ Y64 d Q 46 lv (.int (σ.1 c j.toNatClampNeg) :: st) σ := yX_at (.iaload, 1, 0, 0, 0, 0, []) rfl
theorem g64_46  : Y64 d Q 46 lv st σ ↔ zldI lv 2 (fun x => Y64 d Q 47 lv (.int x :: st) σ) := yX_at (.iload_n 2, 1, 0, 0, 0, 0, []) rfl
theorem g64_47 {x y : Int32} : Y64 d Q 47 lv (.int y :: .int x :: st) σ ↔ (¬ x = y → Y64 d Q 53 lv st σ) ∧ (x = y → Y64 d Q 50 lv st σ) := yX_at (.if_icmp .ne 6, 3, 53, 0, 0, 0, []) rfl
theorem g64_50  : Y64 d Q 50 lv st σ ↔ Y64 d Q 52 lv (.int (-2) :: st) σ := by
  rw [show (-2 : Int32) = (Int8.ofInt (-2)).toInt32 from by decide]
  exact yX_at (.bipush (-2), 2, 0, 0, 0, 0, []) rfl
theorem g64_52 {x : Int32} : Y64 d Q 52 lv [.int x] σ ↔ Q (some (.int x)) σ := yX_at (.ireturn, 1, 0, 0, 0, 0, []) rfl
theorem g64_53  : Y64 d Q 53 lv st σ ↔ zldR lv 0 (fun x => Y64 d Q 54 lv (.ref x :: st) σ) := yX_at (.aload_n 0, 1, 0, 0, 0, 0, []) rfl
theorem g64_54  : Y64 d Q 54 lv st σ ↔ zldI lv 2 (fun x => Y64 d Q 55 lv (.int x :: st) σ) := yX_at (.iload_n 2, 1, 0, 0, 0, 0, []) rfl
theorem g64_55 {v0 : Value} {c : Nat} : Y64 d Q 55 lv (v0 :: .ref c :: st) σ ↔ (zrcv 6 c ∧ zrm st) ∧ ∃ rv σ', yE d 82 [.ref c, v0] σ rv σ' ∧ Y64 d Q 58 lv (rv.toList ++ st) σ' := yX_at (.invokevirtual 128, 3, 82, 1, 132, 0, []) rfl
theorem g64_58 {x : Int32} : Y64 d Q 58 lv (.int x :: st) σ ↔ (¬ x = 0 → Y64 d Q 64 lv st σ) ∧ (x = 0 → Y64 d Q 61 lv st σ) := yX_at (.ifCond .ne 6, 3, 64, 0, 0, 0, []) rfl
theorem g64_61  : Y64 d Q 61 lv st σ ↔ Y64 d Q 63 lv (.int (-3) :: st) σ := by
  rw [show (-3 : Int32) = (Int8.ofInt (-3)).toInt32 from by decide]
  exact yX_at (.bipush (-3), 2, 0, 0, 0, 0, []) rfl
theorem g64_63 {x : Int32} : Y64 d Q 63 lv [.int x] σ ↔ Q (some (.int x)) σ := yX_at (.ireturn, 1, 0, 0, 0, 0, []) rfl
theorem g64_64  : Y64 d Q 64 lv st σ ↔ zldR lv 0 (fun x => Y64 d Q 65 lv (.ref x :: st) σ) := yX_at (.aload_n 0, 1, 0, 0, 0, 0, []) rfl
theorem g64_65 {c : Nat} : Y64 d Q 65 lv (.ref c :: st) σ ↔ zK c = 6 ∧ Y64 d Q 68 lv (zfv σ c 3 :: st) σ := yX_at (.getfield 29, 3, 6, 3, 113, 0, []) rfl
theorem g64_68 {c : Nat} : Y64 d Q 68 lv (.ref c :: st) σ ↔ zK c = 2 ∧ Y64 d Q 71 lv (zfv σ c 4 :: st) σ := yX_at (.getfield 115, 3, 2, 4, 128, 0, []) rfl
theorem g64_71  : Y64 d Q 71 lv st σ ↔ zldI lv 1 (fun x => Y64 d Q 72 lv (.int x :: st) σ) := yX_at (.iload_n 1, 1, 0, 0, 0, 0, []) rfl
theorem g64_72 {j : Int32} {c : Nat} : Y64 d Q 72 lv (.int j :: .ref c :: st) σ ↔ (zK c = 100 ∧ vp_in j (zLn c)) ∧ Y64 d Q 73 lv (.int (σ.1 c j.toNatClampNeg) :: st) σ := yX_at (.iaload, 1, 0, 0, 0, 0, []) rfl
theorem g64_73 {x : Int32} : Y64 d Q 73 lv (.int x :: st) σ ↔ Y64 d Q 74 (zs1 3 (.int x) lv) st σ := yX_at (.istore_n 3, 1, 0, 0, 0, 0, []) rfl
theorem g64_74  : Y64 d Q 74 lv st σ ↔ zldR lv 0 (fun x => Y64 d Q 75 lv (.ref x :: st) σ) := yX_at (.aload_n 0, 1, 0, 0, 0, 0, []) rfl
theorem g64_75 {c : Nat} : Y64 d Q 75 lv (.ref c :: st) σ ↔ zK c = 6 ∧ Y64 d Q 78 lv (zfv σ c 3 :: st) σ := yX_at (.getfield 29, 3, 6, 3, 113, 0, []) rfl
theorem g64_78  : Y64 d Q 78 lv st σ ↔ zldI lv 1 (fun x => Y64 d Q 79 lv (.int x :: st) σ) := yX_at (.iload_n 1, 1, 0, 0, 0, 0, []) rfl
theorem g64_79 {v0 : Value} {c : Nat} : Y64 d Q 79 lv (v0 :: .ref c :: st) σ ↔ (zrcv 2 c ∧ zrm st) ∧ ∃ rv σ', yE d 27 [.ref c, v0] σ rv σ' ∧ Y64 d Q 82 lv (rv.toList ++ st) σ' := yX_at (.invokevirtual 131, 3, 27, 1, 133, 0, []) rfl
theorem g64_82  : Y64 d Q 82 lv st σ ↔ zldR lv 0 (fun x => Y64 d Q 83 lv (.ref x :: st) σ) := yX_at (.aload_n 0, 1, 0, 0, 0, 0, []) rfl
theorem g64_83 {c : Nat} : Y64 d Q 83 lv (.ref c :: st) σ ↔ zK c = 6 ∧ Y64 d Q 86 lv (zfv σ c 3 :: st) σ := yX_at (.getfield 29, 3, 6, 3, 113, 0, []) rfl
theorem g64_86  : Y64 d Q 86 lv st σ ↔ zldI lv 1 (fun x => Y64 d Q 87 lv (.int x :: st) σ) := yX_at (.iload_n 1, 1, 0, 0, 0, 0, []) rfl
theorem g64_87  : Y64 d Q 87 lv st σ ↔ Y64 d Q 88 lv (.int 3 :: st) σ := yX_at (.iconst 3, 1, 0, 0, 0, 0, []) rfl
theorem g64_88 {v0 v1 : Value} {c : Nat} : Y64 d Q 88 lv (v1 :: v0 :: .ref c :: st) σ ↔ (zrcv 2 c ∧ zrm st) ∧ ∃ rv σ', yE d 25 [.ref c, v0, v1] σ rv σ' ∧ Y64 d Q 91 lv (rv.toList ++ st) σ' := yX_at (.invokevirtual 139, 3, 25, 2, 135, 0, []) rfl
theorem g64_91  : Y64 d Q 91 lv st σ ↔ zldR lv 0 (fun x => Y64 d Q 92 lv (.ref x :: st) σ) := yX_at (.aload_n 0, 1, 0, 0, 0, 0, []) rfl
theorem g64_92 {c : Nat} : Y64 d Q 92 lv (.ref c :: st) σ ↔ zK c = 6 ∧ Y64 d Q 95 lv (zfv σ c 3 :: st) σ := yX_at (.getfield 29, 3, 6, 3, 113, 0, []) rfl
theorem g64_95  : Y64 d Q 95 lv st σ ↔ zldI lv 1 (fun x => Y64 d Q 96 lv (.int x :: st) σ) := yX_at (.iload_n 1, 1, 0, 0, 0, 0, []) rfl
theorem g64_96  : Y64 d Q 96 lv st σ ↔ zldI lv 2 (fun x => Y64 d Q 97 lv (.int x :: st) σ) := yX_at (.iload_n 2, 1, 0, 0, 0, 0, []) rfl
theorem g64_97  : Y64 d Q 97 lv st σ ↔ zldR lv 0 (fun x => Y64 d Q 98 lv (.ref x :: st) σ) := yX_at (.aload_n 0, 1, 0, 0, 0, 0, []) rfl
theorem g64_98 {c : Nat} : Y64 d Q 98 lv (.ref c :: st) σ ↔ zK c = 6 ∧ Y64 d Q 101 lv (zfv σ c 3 :: st) σ := yX_at (.getfield 29, 3, 6, 3, 113, 0, []) rfl
theorem g64_101 {c : Nat} : Y64 d Q 101 lv (.ref c :: st) σ ↔ zK c = 2 ∧ Y64 d Q 104 lv (zfv σ c 6 :: st) σ := yX_at (.getfield 91, 3, 2, 6, 120, 0, []) rfl
theorem g64_104  : Y64 d Q 104 lv st σ ↔ zldI lv 2 (fun x => Y64 d Q 105 lv (.int x :: st) σ) := yX_at (.iload_n 2, 1, 0, 0, 0, 0, []) rfl
theorem g64_105 {j : Int32} {c : Nat} : Y64 d Q 105 lv (.int j :: .ref c :: st) σ ↔ (zK c = 100 ∧ vp_in j (zLn c)) ∧ Y64 d Q 106 lv (.int (σ.1 c j.toNatClampNeg) :: st) σ := yX_at (.iaload, 1, 0, 0, 0, 0, []) rfl
theorem g64_106  : Y64 d Q 106 lv st σ ↔ zldI lv 3 (fun x => Y64 d Q 107 lv (.int x :: st) σ) := yX_at (.iload_n 3, 1, 0, 0, 0, 0, []) rfl
theorem g64_107 {v0 v1 v2 v3 : Value} {c : Nat} : Y64 d Q 107 lv (v3 :: v2 :: v1 :: v0 :: .ref c :: st) σ ↔ (zrcv 2 c ∧ zrm st) ∧ ∃ rv σ', yE d 24 [.ref c, v0, v1, v2, v3] σ rv σ' ∧ Y64 d Q 110 lv (rv.toList ++ st) σ' := yX_at (.invokevirtual 135, 3, 24, 4, 134, 0, []) rfl
theorem g64_110  : Y64 d Q 110 lv st σ ↔ zldR lv 0 (fun x => Y64 d Q 111 lv (.ref x :: st) σ) := yX_at (.aload_n 0, 1, 0, 0, 0, 0, []) rfl
theorem g64_111 {c : Nat} : Y64 d Q 111 lv (.ref c :: st) σ ↔ zK c = 6 ∧ Y64 d Q 114 lv (zfv σ c 3 :: st) σ := yX_at (.getfield 29, 3, 6, 3, 113, 0, []) rfl
theorem g64_114 {c : Nat} : Y64 d Q 114 lv (.ref c :: st) σ ↔ zK c = 2 ∧ Y64 d Q 117 lv (zfv σ c 6 :: st) σ := yX_at (.getfield 91, 3, 2, 6, 120, 0, []) rfl
theorem g64_117  : Y64 d Q 117 lv st σ ↔ zldI lv 2 (fun x => Y64 d Q 118 lv (.int x :: st) σ) := yX_at (.iload_n 2, 1, 0, 0, 0, 0, []) rfl
theorem g64_118 {j : Int32} {c : Nat} : Y64 d Q 118 lv (.int j :: .ref c :: st) σ ↔ (zK c = 100 ∧ vp_in j (zLn c)) ∧ Y64 d Q 119 lv (.int (σ.1 c j.toNatClampNeg) :: st) σ := yX_at (.iaload, 1, 0, 0, 0, 0, []) rfl
theorem g64_119 {x : Int32} : Y64 d Q 119 lv [.int x] σ ↔ Q (some (.int x)) σ := yX_at (.ireturn, 1, 0, 0, 0, 0, []) rfl
end G64
def Y65 (d : Nat) (Q : Option Value → zSt → Prop) (pc : Nat) (lv : zLv) (st : List Value) (σ : zSt) : Prop := yX (yE d) ySn zt65 Q pc lv st σ
theorem C65 {d : Nat} {as : List Value} {σ : zSt} {P : Option Value → zSt → Prop} (hl : (lg_sl as).length ≤ 1) (h : Y65 d P 0 (lv_args 0 as) [] σ) : yC (d + 1) 65 as σ P := yC_of (by decide) hl h
section G65
variable {d : Nat} {Q : Option Value → zSt → Prop} {lv : zLv} {st : List Value} {σ : zSt}
theorem g65_0  : Y65 d Q 0 lv st σ ↔ zldR lv 0 (fun x => Y65 d Q 1 lv (.ref x :: st) σ) := yX_at (.aload_n 0, 1, 0, 0, 0, 0, []) rfl
theorem g65_1 {c : Nat} : Y65 d Q 1 lv (.ref c :: st) σ ↔ zK c = 6 ∧ Y65 d Q 4 lv (zfv σ c 3 :: st) σ := yX_at (.getfield 29, 3, 6, 3, 113, 0, []) rfl
theorem g65_4 {c : Nat} : Y65 d Q 4 lv (.ref c :: st) σ ↔ zK c = 2 ∧ Y65 d Q 7 lv (zfv σ c 8 :: st) σ := yX_at (.getfield 146, 3, 2, 8, 137, 0, []) rfl
theorem g65_7 {x : Int32} : Y65 d Q 7 lv (.int x :: st) σ ↔ (0 < x → Y65 d Q 13 lv st σ) ∧ (¬ 0 < x → Y65 d Q 10 lv st σ) := yX_at (.ifCond .gt 6, 3, 13, 0, 0, 0, []) rfl
theorem g65_10  : Y65 d Q 10 lv st σ ↔ Y65 d Q 12 lv (.int (-2) :: st) σ := by
  rw [show (-2 : Int32) = (Int8.ofInt (-2)).toInt32 from by decide]
  exact yX_at (.bipush (-2), 2, 0, 0, 0, 0, []) rfl
theorem g65_12 {x : Int32} : Y65 d Q 12 lv [.int x] σ ↔ Q (some (.int x)) σ := yX_at (.ireturn, 1, 0, 0, 0, 0, []) rfl
theorem g65_13  : Y65 d Q 13 lv st σ ↔ zldR lv 0 (fun x => Y65 d Q 14 lv (.ref x :: st) σ) := yX_at (.aload_n 0, 1, 0, 0, 0, 0, []) rfl
theorem g65_14 {c : Nat} : Y65 d Q 14 lv (.ref c :: st) σ ↔ zK c = 6 ∧ Y65 d Q 17 lv (zfv σ c 3 :: st) σ := yX_at (.getfield 29, 3, 6, 3, 113, 0, []) rfl
theorem g65_17 {c : Nat} : Y65 d Q 17 lv (.ref c :: st) σ ↔ (zrcv 2 c ∧ zrm st) ∧ ∃ rv σ', yE d 28 [.ref c] σ rv σ' ∧ Y65 d Q 20 lv (rv.toList ++ st) σ' := yX_at (.invokevirtual 149, 3, 28, 0, 138, 0, []) rfl
theorem g65_20  : Y65 d Q 20 lv st σ ↔ zldR lv 0 (fun x => Y65 d Q 21 lv (.ref x :: st) σ) := yX_at (.aload_n 0, 1, 0, 0, 0, 0, []) rfl
theorem g65_21 {c : Nat} : Y65 d Q 21 lv (.ref c :: st) σ ↔ zK c = 6 ∧ Y65 d Q 24 lv (zfv σ c 3 :: st) σ := yX_at (.getfield 29, 3, 6, 3, 113, 0, []) rfl
theorem g65_24 {c : Nat} : Y65 d Q 24 lv (.ref c :: st) σ ↔ zK c = 2 ∧ Y65 d Q 27 lv (zfv σ c 8 :: st) σ := yX_at (.getfield 146, 3, 2, 8, 137, 0, []) rfl
theorem g65_27 {x : Int32} : Y65 d Q 27 lv [.int x] σ ↔ Q (some (.int x)) σ := yX_at (.ireturn, 1, 0, 0, 0, 0, []) rfl
end G65
def Y66 (d : Nat) (Q : Option Value → zSt → Prop) (pc : Nat) (lv : zLv) (st : List Value) (σ : zSt) : Prop := yX (yE d) ySn zt66 Q pc lv st σ
theorem C66 {d : Nat} {as : List Value} {σ : zSt} {P : Option Value → zSt → Prop} (hl : (lg_sl as).length ≤ 1) (h : Y66 d P 0 (lv_args 0 as) [] σ) : yC (d + 1) 66 as σ P := yC_of (by decide) hl h
section G66
variable {d : Nat} {Q : Option Value → zSt → Prop} {lv : zLv} {st : List Value} {σ : zSt}
theorem g66_0  : Y66 d Q 0 lv st σ ↔ zldR lv 0 (fun x => Y66 d Q 1 lv (.ref x :: st) σ) := yX_at (.aload_n 0, 1, 0, 0, 0, 0, []) rfl
theorem g66_1 {c : Nat} : Y66 d Q 1 lv (.ref c :: st) σ ↔ zK c = 6 ∧ Y66 d Q 4 lv (zfv σ c 3 :: st) σ := yX_at (.getfield 29, 3, 6, 3, 113, 0, []) rfl
theorem g66_4 {c : Nat} : Y66 d Q 4 lv (.ref c :: st) σ ↔ zK c = 2 ∧ Y66 d Q 7 lv (zfv σ c 0 :: st) σ := yX_at (.getfield 125, 3, 2, 0, 131, 0, []) rfl
theorem g66_7  : Y66 d Q 7 lv st σ ↔ Y66 d Q 9 lv (.int 9 :: st) σ := yX_at (.bipush 9, 2, 0, 0, 0, 0, []) rfl
theorem g66_9 {x y : Int32} : Y66 d Q 9 lv (.int y :: .int x :: st) σ ↔ (x ≤ y → Y66 d Q 15 lv st σ) ∧ (¬ x ≤ y → Y66 d Q 12 lv st σ) := yX_at (.if_icmp .le 6, 3, 15, 0, 0, 0, []) rfl
theorem g66_12  : Y66 d Q 12 lv st σ ↔ Y66 d Q 14 lv (.int (-2) :: st) σ := by
  rw [show (-2 : Int32) = (Int8.ofInt (-2)).toInt32 from by decide]
  exact yX_at (.bipush (-2), 2, 0, 0, 0, 0, []) rfl
theorem g66_14 {x : Int32} : Y66 d Q 14 lv [.int x] σ ↔ Q (some (.int x)) σ := yX_at (.ireturn, 1, 0, 0, 0, 0, []) rfl
theorem g66_15  : Y66 d Q 15 lv st σ ↔ zldR lv 0 (fun x => Y66 d Q 16 lv (.ref x :: st) σ) := yX_at (.aload_n 0, 1, 0, 0, 0, 0, []) rfl
theorem g66_16 {c : Nat} : Y66 d Q 16 lv (.ref c :: st) σ ↔ zK c = 6 ∧ Y66 d Q 19 lv (zfv σ c 3 :: st) σ := yX_at (.getfield 29, 3, 6, 3, 113, 0, []) rfl
theorem g66_19  : Y66 d Q 19 lv st σ ↔ zldR lv 0 (fun x => Y66 d Q 20 lv (.ref x :: st) σ) := yX_at (.aload_n 0, 1, 0, 0, 0, 0, []) rfl
theorem g66_20 {c : Nat} : Y66 d Q 20 lv (.ref c :: st) σ ↔ zK c = 6 ∧ Y66 d Q 23 lv (zfv σ c 1 :: st) σ := yX_at (.getfield 19, 3, 6, 1, 112, 0, []) rfl
theorem g66_23 {v0 : Value} {c : Nat} : Y66 d Q 23 lv (v0 :: .ref c :: st) σ ↔ (zrcv 2 c ∧ zrm st) ∧ ∃ rv σ', yE d 29 [.ref c, v0] σ rv σ' ∧ Y66 d Q 26 lv (rv.toList ++ st) σ' := yX_at (.invokevirtual 152, 3, 29, 1, 139, 0, []) rfl
theorem g66_26 {x : Int32} : Y66 d Q 26 lv [.int x] σ ↔ Q (some (.int x)) σ := yX_at (.ireturn, 1, 0, 0, 0, 0, []) rfl
end G66
def Y67 (d : Nat) (Q : Option Value → zSt → Prop) (pc : Nat) (lv : zLv) (st : List Value) (σ : zSt) : Prop := yX (yE d) ySn zt67 Q pc lv st σ
theorem C67 {d : Nat} {as : List Value} {σ : zSt} {P : Option Value → zSt → Prop} (hl : (lg_sl as).length ≤ 2) (h : Y67 d P 0 (lv_args 0 as) [] σ) : yC (d + 1) 67 as σ P := yC_of (by decide) hl h
section G67
variable {d : Nat} {Q : Option Value → zSt → Prop} {lv : zLv} {st : List Value} {σ : zSt}
theorem g67_0  : Y67 d Q 0 lv st σ ↔ zldI lv 1 (fun x => Y67 d Q 1 lv (.int x :: st) σ) := yX_at (.iload_n 1, 1, 0, 0, 0, 0, []) rfl
theorem g67_1 {x : Int32} : Y67 d Q 1 lv (.int x :: st) σ ↔ (x = 0 → Y67 d Q 36 lv st σ) ∧ (¬ x = 0 → ((x = 1 → Y67 d Q 44 lv st σ) ∧ (¬ x = 1 → ((x = 2 → Y67 d Q 52 lv st σ) ∧ (¬ x = 2 → ((x = 3 → Y67 d Q 60 lv st σ) ∧ (¬ x = 3 → ((x = 4 → Y67 d Q 68 lv st σ) ∧ (¬ x = 4 → (Y67 d Q 76 lv st σ)))))))))) := yX_at (.tableswitch 75 0 4 #[35, 43, 51, 59, 67], 35, 76, 0, 0, 0, [(0, 36), (1, 44), (2, 52), (3, 60), (4, 68)]) rfl
theorem g67_36  : Y67 d Q 36 lv st σ ↔ zldR lv 0 (fun x => Y67 d Q 37 lv (.ref x :: st) σ) := yX_at (.aload_n 0, 1, 0, 0, 0, 0, []) rfl
theorem g67_37 {c : Nat} : Y67 d Q 37 lv (.ref c :: st) σ ↔ zK c = 6 ∧ Y67 d Q 40 lv (zfv σ c 3 :: st) σ := yX_at (.getfield 29, 3, 6, 3, 113, 0, []) rfl
theorem g67_40 {c : Nat} : Y67 d Q 40 lv (.ref c :: st) σ ↔ zK c = 2 ∧ Y67 d Q 43 lv (zfv σ c 0 :: st) σ := yX_at (.getfield 125, 3, 2, 0, 131, 0, []) rfl
theorem g67_43 {x : Int32} : Y67 d Q 43 lv [.int x] σ ↔ Q (some (.int x)) σ := yX_at (.ireturn, 1, 0, 0, 0, 0, []) rfl
theorem g67_44  : Y67 d Q 44 lv st σ ↔ zldR lv 0 (fun x => Y67 d Q 45 lv (.ref x :: st) σ) := yX_at (.aload_n 0, 1, 0, 0, 0, 0, []) rfl
theorem g67_45 {c : Nat} : Y67 d Q 45 lv (.ref c :: st) σ ↔ zK c = 6 ∧ Y67 d Q 48 lv (zfv σ c 3 :: st) σ := yX_at (.getfield 29, 3, 6, 3, 113, 0, []) rfl
theorem g67_48 {c : Nat} : Y67 d Q 48 lv (.ref c :: st) σ ↔ zK c = 2 ∧ Y67 d Q 51 lv (zfv σ c 1 :: st) σ := yX_at (.getfield 155, 3, 2, 1, 140, 0, []) rfl
theorem g67_51 {x : Int32} : Y67 d Q 51 lv [.int x] σ ↔ Q (some (.int x)) σ := yX_at (.ireturn, 1, 0, 0, 0, 0, []) rfl
theorem g67_52  : Y67 d Q 52 lv st σ ↔ zldR lv 0 (fun x => Y67 d Q 53 lv (.ref x :: st) σ) := yX_at (.aload_n 0, 1, 0, 0, 0, 0, []) rfl
theorem g67_53 {c : Nat} : Y67 d Q 53 lv (.ref c :: st) σ ↔ zK c = 6 ∧ Y67 d Q 56 lv (zfv σ c 3 :: st) σ := yX_at (.getfield 29, 3, 6, 3, 113, 0, []) rfl
theorem g67_56 {c : Nat} : Y67 d Q 56 lv (.ref c :: st) σ ↔ zK c = 2 ∧ Y67 d Q 59 lv (zfv σ c 2 :: st) σ := yX_at (.getfield 143, 3, 2, 2, 136, 0, []) rfl
theorem g67_59 {x : Int32} : Y67 d Q 59 lv [.int x] σ ↔ Q (some (.int x)) σ := yX_at (.ireturn, 1, 0, 0, 0, 0, []) rfl
theorem g67_60  : Y67 d Q 60 lv st σ ↔ zldR lv 0 (fun x => Y67 d Q 61 lv (.ref x :: st) σ) := yX_at (.aload_n 0, 1, 0, 0, 0, 0, []) rfl
theorem g67_61 {c : Nat} : Y67 d Q 61 lv (.ref c :: st) σ ↔ zK c = 6 ∧ Y67 d Q 64 lv (zfv σ c 3 :: st) σ := yX_at (.getfield 29, 3, 6, 3, 113, 0, []) rfl
theorem g67_64 {c : Nat} : Y67 d Q 64 lv (.ref c :: st) σ ↔ (zrcv 2 c ∧ zrm st) ∧ ∃ rv σ', yE d 22 [.ref c] σ rv σ' ∧ Y67 d Q 67 lv (rv.toList ++ st) σ' := yX_at (.invokevirtual 158, 3, 22, 0, 141, 0, []) rfl
theorem g67_67 {x : Int32} : Y67 d Q 67 lv [.int x] σ ↔ Q (some (.int x)) σ := yX_at (.ireturn, 1, 0, 0, 0, 0, []) rfl
theorem g67_68  : Y67 d Q 68 lv st σ ↔ zldR lv 0 (fun x => Y67 d Q 69 lv (.ref x :: st) σ) := yX_at (.aload_n 0, 1, 0, 0, 0, 0, []) rfl
theorem g67_69 {c : Nat} : Y67 d Q 69 lv (.ref c :: st) σ ↔ zK c = 6 ∧ Y67 d Q 72 lv (zfv σ c 3 :: st) σ := yX_at (.getfield 29, 3, 6, 3, 113, 0, []) rfl
theorem g67_72 {c : Nat} : Y67 d Q 72 lv (.ref c :: st) σ ↔ zK c = 2 ∧ Y67 d Q 75 lv (zfv σ c 8 :: st) σ := yX_at (.getfield 146, 3, 2, 8, 137, 0, []) rfl
theorem g67_75 {x : Int32} : Y67 d Q 75 lv [.int x] σ ↔ Q (some (.int x)) σ := yX_at (.ireturn, 1, 0, 0, 0, 0, []) rfl
theorem g67_76  : Y67 d Q 76 lv st σ ↔ Y67 d Q 77 lv (.int (-1) :: st) σ := by
  rw [show (-1 : Int32) = Int32.ofInt (-1) from by decide]
  exact yX_at (.iconst (-1), 1, 0, 0, 0, 0, []) rfl
theorem g67_77 {x : Int32} : Y67 d Q 77 lv [.int x] σ ↔ Q (some (.int x)) σ := yX_at (.ireturn, 1, 0, 0, 0, 0, []) rfl
end G67
def Y68 (d : Nat) (Q : Option Value → zSt → Prop) (pc : Nat) (lv : zLv) (st : List Value) (σ : zSt) : Prop := yX (yE d) ySn zt68 Q pc lv st σ
theorem C68 {d : Nat} {as : List Value} {σ : zSt} {P : Option Value → zSt → Prop} (hl : (lg_sl as).length ≤ 3) (h : Y68 d P 0 (lv_args 0 as) [] σ) : yC (d + 1) 68 as σ P := yC_of (by decide) hl h
section G68
variable {d : Nat} {Q : Option Value → zSt → Prop} {lv : zLv} {st : List Value} {σ : zSt}
theorem g68_0  : Y68 d Q 0 lv st σ ↔ zldR lv 0 (fun x => Y68 d Q 1 lv (.ref x :: st) σ) := yX_at (.aload_n 0, 1, 0, 0, 0, 0, []) rfl
theorem g68_1 {c : Nat} : Y68 d Q 1 lv (.ref c :: st) σ ↔ zK c = 6 ∧ Y68 d Q 4 lv (zfv σ c 1 :: st) σ := yX_at (.getfield 19, 3, 6, 1, 112, 0, []) rfl
theorem g68_4  : Y68 d Q 4 lv st σ ↔ zldI lv 1 (fun x => Y68 d Q 5 lv (.int x :: st) σ) := yX_at (.iload_n 1, 1, 0, 0, 0, 0, []) rfl
theorem g68_5 {v0 : Value} {c : Nat} : Y68 d Q 5 lv (v0 :: .ref c :: st) σ ↔ (zrcv 5 c ∧ zrm st) ∧ ∃ rv σ', yE d 50 [.ref c, v0] σ rv σ' ∧ Y68 d Q 8 lv (rv.toList ++ st) σ' := yX_at (.invokevirtual 77, 3, 50, 1, 116, 0, []) rfl
theorem g68_8 {x : Int32} : Y68 d Q 8 lv (.int x :: st) σ ↔ (x = 0 → Y68 d Q 20 lv st σ) ∧ (¬ x = 0 → Y68 d Q 11 lv st σ) := yX_at (.ifCond .eq 12, 3, 20, 0, 0, 0, []) rfl
theorem g68_11  : Y68 d Q 11 lv st σ ↔ zldI lv 2 (fun x => Y68 d Q 12 lv (.int x :: st) σ) := yX_at (.iload_n 2, 1, 0, 0, 0, 0, []) rfl
theorem g68_12 {x : Int32} : Y68 d Q 12 lv (.int x :: st) σ ↔ (x < 0 → Y68 d Q 20 lv st σ) ∧ (¬ x < 0 → Y68 d Q 15 lv st σ) := yX_at (.ifCond .lt 8, 3, 20, 0, 0, 0, []) rfl
theorem g68_15  : Y68 d Q 15 lv st σ ↔ zldI lv 2 (fun x => Y68 d Q 16 lv (.int x :: st) σ) := yX_at (.iload_n 2, 1, 0, 0, 0, 0, []) rfl
theorem g68_16  : Y68 d Q 16 lv st σ ↔ Y68 d Q 17 lv (.int 1 :: st) σ := yX_at (.iconst 1, 1, 0, 0, 0, 0, []) rfl
theorem g68_17 {x y : Int32} : Y68 d Q 17 lv (.int y :: .int x :: st) σ ↔ (x ≤ y → Y68 d Q 22 lv st σ) ∧ (¬ x ≤ y → Y68 d Q 20 lv st σ) := yX_at (.if_icmp .le 5, 3, 22, 0, 0, 0, []) rfl
theorem g68_20  : Y68 d Q 20 lv st σ ↔ Y68 d Q 21 lv (.int (-1) :: st) σ := by
  rw [show (-1 : Int32) = Int32.ofInt (-1) from by decide]
  exact yX_at (.iconst (-1), 1, 0, 0, 0, 0, []) rfl
theorem g68_21 {x : Int32} : Y68 d Q 21 lv [.int x] σ ↔ Q (some (.int x)) σ := yX_at (.ireturn, 1, 0, 0, 0, 0, []) rfl
theorem g68_22  : Y68 d Q 22 lv st σ ↔ zldR lv 0 (fun x => Y68 d Q 23 lv (.ref x :: st) σ) := yX_at (.aload_n 0, 1, 0, 0, 0, 0, []) rfl
theorem g68_23 {c : Nat} : Y68 d Q 23 lv (.ref c :: st) σ ↔ zK c = 6 ∧ Y68 d Q 26 lv (zfv σ c 7 :: st) σ := yX_at (.getfield 51, 3, 6, 7, 142, 0, []) rfl
theorem g68_26  : Y68 d Q 26 lv st σ ↔ zldR lv 0 (fun x => Y68 d Q 27 lv (.ref x :: st) σ) := yX_at (.aload_n 0, 1, 0, 0, 0, 0, []) rfl
theorem g68_27 {c : Nat} : Y68 d Q 27 lv (.ref c :: st) σ ↔ zK c = 6 ∧ Y68 d Q 30 lv (zfv σ c 1 :: st) σ := yX_at (.getfield 19, 3, 6, 1, 112, 0, []) rfl
theorem g68_30  : Y68 d Q 30 lv st σ ↔ zldI lv 1 (fun x => Y68 d Q 31 lv (.int x :: st) σ) := yX_at (.iload_n 1, 1, 0, 0, 0, 0, []) rfl
theorem g68_31  : Y68 d Q 31 lv st σ ↔ zldR lv 0 (fun x => Y68 d Q 32 lv (.ref x :: st) σ) := yX_at (.aload_n 0, 1, 0, 0, 0, 0, []) rfl
theorem g68_32 {c : Nat} : Y68 d Q 32 lv (.ref c :: st) σ ↔ zK c = 6 ∧ Y68 d Q 35 lv (zfv σ c 3 :: st) σ := yX_at (.getfield 29, 3, 6, 3, 113, 0, []) rfl
theorem g68_35 {c : Nat} : Y68 d Q 35 lv (.ref c :: st) σ ↔ zK c = 2 ∧ Y68 d Q 38 lv (zfv σ c 0 :: st) σ := yX_at (.getfield 125, 3, 2, 0, 131, 0, []) rfl
theorem g68_38  : Y68 d Q 38 lv st σ ↔ zldR lv 0 (fun x => Y68 d Q 39 lv (.ref x :: st) σ) := yX_at (.aload_n 0, 1, 0, 0, 0, 0, []) rfl
theorem g68_39 {c : Nat} : Y68 d Q 39 lv (.ref c :: st) σ ↔ zK c = 6 ∧ Y68 d Q 42 lv (zfv σ c 1 :: st) σ := yX_at (.getfield 19, 3, 6, 1, 112, 0, []) rfl
theorem g68_42 {c : Nat} : Y68 d Q 42 lv (.ref c :: st) σ ↔ zK c = 5 ∧ Y68 d Q 45 lv (zfv σ c 1 :: st) σ := yX_at (.getfield 81, 3, 5, 1, 117, 0, []) rfl
theorem g68_45  : Y68 d Q 45 lv st σ ↔ zldI lv 1 (fun x => Y68 d Q 46 lv (.int x :: st) σ) := yX_at (.iload_n 1, 1, 0, 0, 0, 0, []) rfl
theorem g68_46 {j : Int32} {c : Nat} : Y68 d Q 46 lv (.int j :: .ref c :: st) σ ↔ (zK c = 100 ∧ vp_in j (zLn c)) ∧ Y68 d Q 47 lv (.int (σ.1 c j.toNatClampNeg) :: st) σ := yX_at (.iaload, 1, 0, 0, 0, 0, []) rfl
theorem g68_47  : Y68 d Q 47 lv st σ ↔ zldR lv 0 (fun x => Y68 d Q 48 lv (.ref x :: st) σ) := yX_at (.aload_n 0, 1, 0, 0, 0, 0, []) rfl
theorem g68_48 {c : Nat} : Y68 d Q 48 lv (.ref c :: st) σ ↔ zK c = 6 ∧ Y68 d Q 51 lv (zfv σ c 1 :: st) σ := yX_at (.getfield 19, 3, 6, 1, 112, 0, []) rfl
theorem g68_51 {c : Nat} : Y68 d Q 51 lv (.ref c :: st) σ ↔ zK c = 5 ∧ Y68 d Q 54 lv (zfv σ c 2 :: st) σ := yX_at (.getfield 85, 3, 5, 2, 118, 0, []) rfl
theorem g68_54  : Y68 d Q 54 lv st σ ↔ zldI lv 1 (fun x => Y68 d Q 55 lv (.int x :: st) σ) := yX_at (.iload_n 1, 1, 0, 0, 0, 0, []) rfl
theorem g68_55 {j : Int32} {c : Nat} : Y68 d Q 55 lv (.int j :: .ref c :: st) σ ↔ (zK c = 100 ∧ vp_in j (zLn c)) ∧ Y68 d Q 56 lv (.int (σ.1 c j.toNatClampNeg) :: st) σ := yX_at (.iaload, 1, 0, 0, 0, 0, []) rfl
theorem g68_56 {v0 v1 v2 v3 v4 : Value} {c : Nat} : Y68 d Q 56 lv (v4 :: v3 :: v2 :: v1 :: v0 :: .ref c :: st) σ ↔ (zrcv 1 c ∧ zrm st) ∧ ∃ rv σ', yE d 11 [.ref c, v0, v1, v2, v3, v4] σ rv σ' ∧ Y68 d Q 59 lv (rv.toList ++ st) σ' := yX_at (.invokevirtual 162, 3, 11, 5, 143, 0, []) rfl
theorem g68_59  : Y68 d Q 59 lv st σ ↔ zldI lv 2 (fun x => Y68 d Q 60 lv (.int x :: st) σ) := yX_at (.iload_n 2, 1, 0, 0, 0, 0, []) rfl
theorem g68_60 {x : Int32} : Y68 d Q 60 lv (.int x :: st) σ ↔ (¬ x = 0 → Y68 d Q 73 lv st σ) ∧ (x = 0 → Y68 d Q 63 lv st σ) := yX_at (.ifCond .ne 13, 3, 73, 0, 0, 0, []) rfl
theorem g68_63  : Y68 d Q 63 lv st σ ↔ zldR lv 0 (fun x => Y68 d Q 64 lv (.ref x :: st) σ) := yX_at (.aload_n 0, 1, 0, 0, 0, 0, []) rfl
theorem g68_64 {c : Nat} : Y68 d Q 64 lv (.ref c :: st) σ ↔ zK c = 6 ∧ Y68 d Q 67 lv (zfv σ c 7 :: st) σ := yX_at (.getfield 51, 3, 6, 7, 142, 0, []) rfl
theorem g68_67 {c : Nat} : Y68 d Q 67 lv (.ref c :: st) σ ↔ zK c = 1 ∧ Y68 d Q 70 lv (zfv σ c 0 :: st) σ := yX_at (.getfield 166, 3, 1, 0, 144, 0, []) rfl
theorem g68_70  : Y68 d Q 70 lv st σ ↔ Y68 d Q 80 lv st σ := yX_at (.goto 10, 3, 80, 0, 0, 0, []) rfl
theorem g68_73  : Y68 d Q 73 lv st σ ↔ zldR lv 0 (fun x => Y68 d Q 74 lv (.ref x :: st) σ) := yX_at (.aload_n 0, 1, 0, 0, 0, 0, []) rfl
theorem g68_74 {c : Nat} : Y68 d Q 74 lv (.ref c :: st) σ ↔ zK c = 6 ∧ Y68 d Q 77 lv (zfv σ c 7 :: st) σ := yX_at (.getfield 51, 3, 6, 7, 142, 0, []) rfl
theorem g68_77 {c : Nat} : Y68 d Q 77 lv (.ref c :: st) σ ↔ zK c = 1 ∧ Y68 d Q 80 lv (zfv σ c 1 :: st) σ := yX_at (.getfield 169, 3, 1, 1, 145, 0, []) rfl
theorem g68_80 {x : Int32} : Y68 d Q 80 lv [.int x] σ ↔ Q (some (.int x)) σ := yX_at (.ireturn, 1, 0, 0, 0, 0, []) rfl
end G68
def Y69 (d : Nat) (Q : Option Value → zSt → Prop) (pc : Nat) (lv : zLv) (st : List Value) (σ : zSt) : Prop := yX (yE d) ySn zt69 Q pc lv st σ
theorem C69 {d : Nat} {as : List Value} {σ : zSt} {P : Option Value → zSt → Prop} (hl : (lg_sl as).length ≤ 5) (h : Y69 d P 0 (lv_args 0 as) [] σ) : yC (d + 1) 69 as σ P := yC_of (by decide) hl h
section G69
variable {d : Nat} {Q : Option Value → zSt → Prop} {lv : zLv} {st : List Value} {σ : zSt}
theorem g69_0  : Y69 d Q 0 lv st σ ↔ zldR lv 0 (fun x => Y69 d Q 1 lv (.ref x :: st) σ) := yX_at (.aload_n 0, 1, 0, 0, 0, 0, []) rfl
theorem g69_1 {c : Nat} : Y69 d Q 1 lv (.ref c :: st) σ ↔ zK c = 6 ∧ Y69 d Q 4 lv (zfv σ c 1 :: st) σ := yX_at (.getfield 19, 3, 6, 1, 112, 0, []) rfl
theorem g69_4  : Y69 d Q 4 lv st σ ↔ zldI lv 1 (fun x => Y69 d Q 5 lv (.int x :: st) σ) := yX_at (.iload_n 1, 1, 0, 0, 0, 0, []) rfl
theorem g69_5 {v0 : Value} {c : Nat} : Y69 d Q 5 lv (v0 :: .ref c :: st) σ ↔ (zrcv 5 c ∧ zrm st) ∧ ∃ rv σ', yE d 50 [.ref c, v0] σ rv σ' ∧ Y69 d Q 8 lv (rv.toList ++ st) σ' := yX_at (.invokevirtual 77, 3, 50, 1, 116, 0, []) rfl
theorem g69_8 {x : Int32} : Y69 d Q 8 lv (.int x :: st) σ ↔ (x = 0 → Y69 d Q 20 lv st σ) ∧ (¬ x = 0 → Y69 d Q 11 lv st σ) := yX_at (.ifCond .eq 12, 3, 20, 0, 0, 0, []) rfl
theorem g69_11  : Y69 d Q 11 lv st σ ↔ zldI lv 2 (fun x => Y69 d Q 12 lv (.int x :: st) σ) := yX_at (.iload_n 2, 1, 0, 0, 0, 0, []) rfl
theorem g69_12 {x : Int32} : Y69 d Q 12 lv (.int x :: st) σ ↔ (x < 0 → Y69 d Q 20 lv st σ) ∧ (¬ x < 0 → Y69 d Q 15 lv st σ) := yX_at (.ifCond .lt 8, 3, 20, 0, 0, 0, []) rfl
theorem g69_15  : Y69 d Q 15 lv st σ ↔ zldI lv 2 (fun x => Y69 d Q 16 lv (.int x :: st) σ) := yX_at (.iload_n 2, 1, 0, 0, 0, 0, []) rfl
theorem g69_16  : Y69 d Q 16 lv st σ ↔ Y69 d Q 17 lv (.int 1 :: st) σ := yX_at (.iconst 1, 1, 0, 0, 0, 0, []) rfl
theorem g69_17 {x y : Int32} : Y69 d Q 17 lv (.int y :: .int x :: st) σ ↔ (x ≤ y → Y69 d Q 22 lv st σ) ∧ (¬ x ≤ y → Y69 d Q 20 lv st σ) := yX_at (.if_icmp .le 5, 3, 22, 0, 0, 0, []) rfl
theorem g69_20  : Y69 d Q 20 lv st σ ↔ Y69 d Q 21 lv (.int (-1) :: st) σ := by
  rw [show (-1 : Int32) = Int32.ofInt (-1) from by decide]
  exact yX_at (.iconst (-1), 1, 0, 0, 0, 0, []) rfl
theorem g69_21 {x : Int32} : Y69 d Q 21 lv [.int x] σ ↔ Q (some (.int x)) σ := yX_at (.ireturn, 1, 0, 0, 0, 0, []) rfl
theorem g69_22  : Y69 d Q 22 lv st σ ↔ zldI lv 2 (fun x => Y69 d Q 23 lv (.int x :: st) σ) := yX_at (.iload_n 2, 1, 0, 0, 0, 0, []) rfl
theorem g69_23 {x : Int32} : Y69 d Q 23 lv (.int x :: st) σ ↔ (¬ x = 0 → Y69 d Q 31 lv st σ) ∧ (x = 0 → Y69 d Q 26 lv st σ) := yX_at (.ifCond .ne 8, 3, 31, 0, 0, 0, []) rfl
theorem g69_26  : Y69 d Q 26 lv st σ ↔ Y69 d Q 28 lv (.int 8 :: st) σ := yX_at (.bipush 8, 2, 0, 0, 0, 0, []) rfl
theorem g69_28  : Y69 d Q 28 lv st σ ↔ Y69 d Q 40 lv st σ := yX_at (.goto 12, 3, 40, 0, 0, 0, []) rfl
theorem g69_31  : Y69 d Q 31 lv st σ ↔ zldR lv 0 (fun x => Y69 d Q 32 lv (.ref x :: st) σ) := yX_at (.aload_n 0, 1, 0, 0, 0, 0, []) rfl
theorem g69_32 {c : Nat} : Y69 d Q 32 lv (.ref c :: st) σ ↔ zK c = 6 ∧ Y69 d Q 35 lv (zfv σ c 1 :: st) σ := yX_at (.getfield 19, 3, 6, 1, 112, 0, []) rfl
theorem g69_35 {c : Nat} : Y69 d Q 35 lv (.ref c :: st) σ ↔ zK c = 5 ∧ Y69 d Q 38 lv (zfv σ c 1 :: st) σ := yX_at (.getfield 81, 3, 5, 1, 117, 0, []) rfl
theorem g69_38  : Y69 d Q 38 lv st σ ↔ zldI lv 1 (fun x => Y69 d Q 39 lv (.int x :: st) σ) := yX_at (.iload_n 1, 1, 0, 0, 0, 0, []) rfl
theorem g69_39 {j : Int32} {c : Nat} : Y69 d Q 39 lv (.int j :: .ref c :: st) σ ↔ (zK c = 100 ∧ vp_in j (zLn c)) ∧ Y69 d Q 40 lv (.int (σ.1 c j.toNatClampNeg) :: st) σ := yX_at (.iaload, 1, 0, 0, 0, 0, []) rfl
theorem g69_40 {x : Int32} : Y69 d Q 40 lv (.int x :: st) σ ↔ Y69 d Q 41 (zs1 3 (.int x) lv) st σ := yX_at (.istore_n 3, 1, 0, 0, 0, 0, []) rfl
theorem g69_41  : Y69 d Q 41 lv st σ ↔ zldI lv 2 (fun x => Y69 d Q 42 lv (.int x :: st) σ) := yX_at (.iload_n 2, 1, 0, 0, 0, 0, []) rfl
theorem g69_42 {x : Int32} : Y69 d Q 42 lv (.int x :: st) σ ↔ (¬ x = 0 → Y69 d Q 57 lv st σ) ∧ (x = 0 → Y69 d Q 45 lv st σ) := yX_at (.ifCond .ne 15, 3, 57, 0, 0, 0, []) rfl
theorem g69_45  : Y69 d Q 45 lv st σ ↔ zldR lv 0 (fun x => Y69 d Q 46 lv (.ref x :: st) σ) := yX_at (.aload_n 0, 1, 0, 0, 0, 0, []) rfl
theorem g69_46 {c : Nat} : Y69 d Q 46 lv (.ref c :: st) σ ↔ zK c = 6 ∧ Y69 d Q 49 lv (zfv σ c 1 :: st) σ := yX_at (.getfield 19, 3, 6, 1, 112, 0, []) rfl
theorem g69_49 {c : Nat} : Y69 d Q 49 lv (.ref c :: st) σ ↔ zK c = 5 ∧ Y69 d Q 52 lv (zfv σ c 2 :: st) σ := yX_at (.getfield 85, 3, 5, 2, 118, 0, []) rfl
theorem g69_52  : Y69 d Q 52 lv st σ ↔ zldI lv 1 (fun x => Y69 d Q 53 lv (.int x :: st) σ) := yX_at (.iload_n 1, 1, 0, 0, 0, 0, []) rfl
theorem g69_53 {j : Int32} {c : Nat} : Y69 d Q 53 lv (.int j :: .ref c :: st) σ ↔ (zK c = 100 ∧ vp_in j (zLn c)) ∧ Y69 d Q 54 lv (.int (σ.1 c j.toNatClampNeg) :: st) σ := yX_at (.iaload, 1, 0, 0, 0, 0, []) rfl
theorem g69_54  : Y69 d Q 54 lv st σ ↔ Y69 d Q 59 lv st σ := yX_at (.goto 5, 3, 59, 0, 0, 0, []) rfl
theorem g69_57  : Y69 d Q 57 lv st σ ↔ Y69 d Q 59 lv (.int 99 :: st) σ := yX_at (.bipush 99, 2, 0, 0, 0, 0, []) rfl
theorem g69_59 {x : Int32} : Y69 d Q 59 lv (.int x :: st) σ ↔ Y69 d Q 61 (zs1 4 (.int x) lv) st σ := yX_at (.istore 4, 2, 0, 0, 0, 0, []) rfl
theorem g69_61  : Y69 d Q 61 lv st σ ↔ zldR lv 0 (fun x => Y69 d Q 62 lv (.ref x :: st) σ) := yX_at (.aload_n 0, 1, 0, 0, 0, 0, []) rfl
theorem g69_62 {c : Nat} : Y69 d Q 62 lv (.ref c :: st) σ ↔ zK c = 6 ∧ Y69 d Q 65 lv (zfv σ c 7 :: st) σ := yX_at (.getfield 51, 3, 6, 7, 142, 0, []) rfl
theorem g69_65  : Y69 d Q 65 lv st σ ↔ zldR lv 0 (fun x => Y69 d Q 66 lv (.ref x :: st) σ) := yX_at (.aload_n 0, 1, 0, 0, 0, 0, []) rfl
theorem g69_66 {c : Nat} : Y69 d Q 66 lv (.ref c :: st) σ ↔ zK c = 6 ∧ Y69 d Q 69 lv (zfv σ c 1 :: st) σ := yX_at (.getfield 19, 3, 6, 1, 112, 0, []) rfl
theorem g69_69  : Y69 d Q 69 lv st σ ↔ zldI lv 1 (fun x => Y69 d Q 70 lv (.int x :: st) σ) := yX_at (.iload_n 1, 1, 0, 0, 0, 0, []) rfl
theorem g69_70  : Y69 d Q 70 lv st σ ↔ zldR lv 0 (fun x => Y69 d Q 71 lv (.ref x :: st) σ) := yX_at (.aload_n 0, 1, 0, 0, 0, 0, []) rfl
theorem g69_71 {c : Nat} : Y69 d Q 71 lv (.ref c :: st) σ ↔ zK c = 6 ∧ Y69 d Q 74 lv (zfv σ c 3 :: st) σ := yX_at (.getfield 29, 3, 6, 3, 113, 0, []) rfl
theorem g69_74 {c : Nat} : Y69 d Q 74 lv (.ref c :: st) σ ↔ zK c = 2 ∧ Y69 d Q 77 lv (zfv σ c 0 :: st) σ := yX_at (.getfield 125, 3, 2, 0, 131, 0, []) rfl
theorem g69_77  : Y69 d Q 77 lv st σ ↔ zldI lv 3 (fun x => Y69 d Q 78 lv (.int x :: st) σ) := yX_at (.iload_n 3, 1, 0, 0, 0, 0, []) rfl
theorem g69_78  : Y69 d Q 78 lv st σ ↔ zldI lv 4 (fun x => Y69 d Q 80 lv (.int x :: st) σ) := yX_at (.iload 4, 2, 0, 0, 0, 0, []) rfl
theorem g69_80 {v0 v1 v2 v3 v4 : Value} {c : Nat} : Y69 d Q 80 lv (v4 :: v3 :: v2 :: v1 :: v0 :: .ref c :: st) σ ↔ (zrcv 1 c ∧ zrm st) ∧ ∃ rv σ', yE d 11 [.ref c, v0, v1, v2, v3, v4] σ rv σ' ∧ Y69 d Q 83 lv (rv.toList ++ st) σ' := yX_at (.invokevirtual 162, 3, 11, 5, 143, 0, []) rfl
theorem g69_83  : Y69 d Q 83 lv st σ ↔ zldR lv 0 (fun x => Y69 d Q 84 lv (.ref x :: st) σ) := yX_at (.aload_n 0, 1, 0, 0, 0, 0, []) rfl
theorem g69_84 {c : Nat} : Y69 d Q 84 lv (.ref c :: st) σ ↔ zK c = 6 ∧ Y69 d Q 87 lv (zfv σ c 7 :: st) σ := yX_at (.getfield 51, 3, 6, 7, 142, 0, []) rfl
theorem g69_87 {c : Nat} : Y69 d Q 87 lv (.ref c :: st) σ ↔ zK c = 1 ∧ Y69 d Q 90 lv (zfv σ c 0 :: st) σ := yX_at (.getfield 166, 3, 1, 0, 144, 0, []) rfl
theorem g69_90 {x : Int32} : Y69 d Q 90 lv [.int x] σ ↔ Q (some (.int x)) σ := yX_at (.ireturn, 1, 0, 0, 0, 0, []) rfl
end G69
def Y70 (d : Nat) (Q : Option Value → zSt → Prop) (pc : Nat) (lv : zLv) (st : List Value) (σ : zSt) : Prop := yX (yE d) ySn zt70 Q pc lv st σ
theorem C70 {d : Nat} {as : List Value} {σ : zSt} {P : Option Value → zSt → Prop} (hl : (lg_sl as).length ≤ 5) (h : Y70 d P 0 (lv_args 0 as) [] σ) : yC (d + 1) 70 as σ P := yC_of (by decide) hl h
section G70
variable {d : Nat} {Q : Option Value → zSt → Prop} {lv : zLv} {st : List Value} {σ : zSt}
theorem g70_0  : Y70 d Q 0 lv st σ ↔ zldI lv 1 (fun x => Y70 d Q 1 lv (.int x :: st) σ) := yX_at (.iload_n 1, 1, 0, 0, 0, 0, []) rfl
theorem g70_1 {x : Int32} : Y70 d Q 1 lv (.int x :: st) σ ↔ (x < 0 → Y70 d Q 19 lv st σ) ∧ (¬ x < 0 → Y70 d Q 4 lv st σ) := yX_at (.ifCond .lt 18, 3, 19, 0, 0, 0, []) rfl
theorem g70_4  : Y70 d Q 4 lv st σ ↔ zldI lv 1 (fun x => Y70 d Q 5 lv (.int x :: st) σ) := yX_at (.iload_n 1, 1, 0, 0, 0, 0, []) rfl
theorem g70_5  : Y70 d Q 5 lv st σ ↔ Y70 d Q 6 lv (.int 3 :: st) σ := yX_at (.iconst 3, 1, 0, 0, 0, 0, []) rfl
theorem g70_6 {x y : Int32} : Y70 d Q 6 lv (.int y :: .int x :: st) σ ↔ (y ≤ x → Y70 d Q 19 lv st σ) ∧ (¬ y ≤ x → Y70 d Q 9 lv st σ) := yX_at (.if_icmp .ge 13, 3, 19, 0, 0, 0, []) rfl
theorem g70_9  : Y70 d Q 9 lv st σ ↔ zldI lv 2 (fun x => Y70 d Q 10 lv (.int x :: st) σ) := yX_at (.iload_n 2, 1, 0, 0, 0, 0, []) rfl
theorem g70_10 {x : Int32} : Y70 d Q 10 lv (.int x :: st) σ ↔ (x < 0 → Y70 d Q 19 lv st σ) ∧ (¬ x < 0 → Y70 d Q 13 lv st σ) := yX_at (.ifCond .lt 9, 3, 19, 0, 0, 0, []) rfl
theorem g70_13  : Y70 d Q 13 lv st σ ↔ zldI lv 2 (fun x => Y70 d Q 14 lv (.int x :: st) σ) := yX_at (.iload_n 2, 1, 0, 0, 0, 0, []) rfl
theorem g70_14  : Y70 d Q 14 lv st σ ↔ Y70 d Q 16 lv (.int 10 :: st) σ := yX_at (.bipush 10, 2, 0, 0, 0, 0, []) rfl
theorem g70_16 {x y : Int32} : Y70 d Q 16 lv (.int y :: .int x :: st) σ ↔ (x ≤ y → Y70 d Q 21 lv st σ) ∧ (¬ x ≤ y → Y70 d Q 19 lv st σ) := yX_at (.if_icmp .le 5, 3, 21, 0, 0, 0, []) rfl
theorem g70_19  : Y70 d Q 19 lv st σ ↔ Y70 d Q 20 lv (.int (-1) :: st) σ := by
  rw [show (-1 : Int32) = Int32.ofInt (-1) from by decide]
  exact yX_at (.iconst (-1), 1, 0, 0, 0, 0, []) rfl
theorem g70_20 {x : Int32} : Y70 d Q 20 lv [.int x] σ ↔ Q (some (.int x)) σ := yX_at (.ireturn, 1, 0, 0, 0, 0, []) rfl
theorem g70_21  : Y70 d Q 21 lv st σ ↔ zldI lv 3 (fun x => Y70 d Q 22 lv (.int x :: st) σ) := yX_at (.iload_n 3, 1, 0, 0, 0, 0, []) rfl
theorem g70_22  : Y70 d Q 22 lv st σ ↔ Y70 d Q 23 lv (.int 1 :: st) σ := yX_at (.iconst 1, 1, 0, 0, 0, 0, []) rfl
theorem g70_23 {x y : Int32} : Y70 d Q 23 lv (.int y :: .int x :: st) σ ↔ (x < y → Y70 d Q 44 lv st σ) ∧ (¬ x < y → Y70 d Q 26 lv st σ) := yX_at (.if_icmp .lt 21, 3, 44, 0, 0, 0, []) rfl
theorem g70_26  : Y70 d Q 26 lv st σ ↔ zldI lv 3 (fun x => Y70 d Q 27 lv (.int x :: st) σ) := yX_at (.iload_n 3, 1, 0, 0, 0, 0, []) rfl
theorem g70_27  : Y70 d Q 27 lv st σ ↔ Y70 d Q 29 lv (.int 99 :: st) σ := yX_at (.bipush 99, 2, 0, 0, 0, 0, []) rfl
theorem g70_29 {x y : Int32} : Y70 d Q 29 lv (.int y :: .int x :: st) σ ↔ (y < x → Y70 d Q 44 lv st σ) ∧ (¬ y < x → Y70 d Q 32 lv st σ) := yX_at (.if_icmp .gt 15, 3, 44, 0, 0, 0, []) rfl
theorem g70_32  : Y70 d Q 32 lv st σ ↔ zldI lv 4 (fun x => Y70 d Q 34 lv (.int x :: st) σ) := yX_at (.iload 4, 2, 0, 0, 0, 0, []) rfl
theorem g70_34  : Y70 d Q 34 lv st σ ↔ Y70 d Q 35 lv (.int 1 :: st) σ := yX_at (.iconst 1, 1, 0, 0, 0, 0, []) rfl
theorem g70_35 {x y : Int32} : Y70 d Q 35 lv (.int y :: .int x :: st) σ ↔ (x < y → Y70 d Q 44 lv st σ) ∧ (¬ x < y → Y70 d Q 38 lv st σ) := yX_at (.if_icmp .lt 9, 3, 44, 0, 0, 0, []) rfl
theorem g70_38  : Y70 d Q 38 lv st σ ↔ zldI lv 4 (fun x => Y70 d Q 40 lv (.int x :: st) σ) := yX_at (.iload 4, 2, 0, 0, 0, 0, []) rfl
theorem g70_40  : Y70 d Q 40 lv st σ ↔ Y70 d Q 41 lv (.int 3 :: st) σ := yX_at (.iconst 3, 1, 0, 0, 0, 0, []) rfl
theorem g70_41 {x y : Int32} : Y70 d Q 41 lv (.int y :: .int x :: st) σ ↔ (x ≤ y → Y70 d Q 46 lv st σ) ∧ (¬ x ≤ y → Y70 d Q 44 lv st σ) := yX_at (.if_icmp .le 5, 3, 46, 0, 0, 0, []) rfl
theorem g70_44  : Y70 d Q 44 lv st σ ↔ Y70 d Q 45 lv (.int (-1) :: st) σ := by
  rw [show (-1 : Int32) = Int32.ofInt (-1) from by decide]
  exact yX_at (.iconst (-1), 1, 0, 0, 0, 0, []) rfl
theorem g70_45 {x : Int32} : Y70 d Q 45 lv [.int x] σ ↔ Q (some (.int x)) σ := yX_at (.ireturn, 1, 0, 0, 0, 0, []) rfl
theorem g70_46  : Y70 d Q 46 lv st σ ↔ zldR lv 0 (fun x => Y70 d Q 47 lv (.ref x :: st) σ) := yX_at (.aload_n 0, 1, 0, 0, 0, 0, []) rfl
theorem g70_47 {c : Nat} : Y70 d Q 47 lv (.ref c :: st) σ ↔ zK c = 6 ∧ Y70 d Q 50 lv (zfv σ c 6 :: st) σ := yX_at (.getfield 44, 3, 6, 6, 146, 0, []) rfl
theorem g70_50 {c : Nat} : Y70 d Q 50 lv (.ref c :: st) σ ↔ (zrcv 0 c ∧ zrm st) ∧ ∃ rv σ', yE d 1 [.ref c] σ rv σ' ∧ Y70 d Q 53 lv (rv.toList ++ st) σ' := yX_at (.invokevirtual 172, 3, 1, 0, 147, 0, []) rfl
theorem g70_53  : Y70 d Q 53 lv st σ ↔ zldR lv 0 (fun x => Y70 d Q 54 lv (.ref x :: st) σ) := yX_at (.aload_n 0, 1, 0, 0, 0, 0, []) rfl
theorem g70_54 {c : Nat} : Y70 d Q 54 lv (.ref c :: st) σ ↔ zK c = 6 ∧ Y70 d Q 57 lv (zfv σ c 6 :: st) σ := yX_at (.getfield 44, 3, 6, 6, 146, 0, []) rfl
theorem g70_57 {c : Nat} : Y70 d Q 57 lv (.ref c :: st) σ ↔ zK c = 0 ∧ Y70 d Q 60 lv (zfv σ c 0 :: st) σ := yX_at (.getfield 175, 3, 0, 0, 148, 0, []) rfl
theorem g70_60  : Y70 d Q 60 lv st σ ↔ zldI lv 1 (fun x => Y70 d Q 61 lv (.int x :: st) σ) := yX_at (.iload_n 1, 1, 0, 0, 0, 0, []) rfl
theorem g70_61 {j : Int32} {c : Nat} : Y70 d Q 61 lv (.int j :: .ref c :: st) σ ↔ (zK c = 100 ∧ vp_in j (zLn c)) ∧ Y70 d Q 62 lv (.int (σ.1 c j.toNatClampNeg) :: st) σ := yX_at (.iaload, 1, 0, 0, 0, 0, []) rfl
theorem g70_62 {x y : Int32} : Y70 d Q 62 lv (.int y :: .int x :: st) σ ↔ Y70 d Q 63 lv (.int (x - y) :: st) σ := yX_at (.isub, 1, 0, 0, 0, 0, []) rfl
theorem g70_63  : Y70 d Q 63 lv st σ ↔ zldI lv 2 (fun x => Y70 d Q 64 lv (.int x :: st) σ) := yX_at (.iload_n 2, 1, 0, 0, 0, 0, []) rfl
theorem g70_64 {x y : Int32} : Y70 d Q 64 lv (.int y :: .int x :: st) σ ↔ Y70 d Q 65 lv (.int (x + y) :: st) σ := yX_at (.iadd, 1, 0, 0, 0, 0, []) rfl
theorem g70_65  : Y70 d Q 65 lv st σ ↔ Y70 d Q 67 lv (.int 10 :: st) σ := yX_at (.bipush 10, 2, 0, 0, 0, 0, []) rfl
theorem g70_67 {x y : Int32} : Y70 d Q 67 lv (.int y :: .int x :: st) σ ↔ (x ≤ y → Y70 d Q 72 lv st σ) ∧ (¬ x ≤ y → Y70 d Q 70 lv st σ) := yX_at (.if_icmp .le 5, 3, 72, 0, 0, 0, []) rfl
theorem g70_70  : Y70 d Q 70 lv st σ ↔ Y70 d Q 71 lv (.int (-1) :: st) σ := by
  rw [show (-1 : Int32) = Int32.ofInt (-1) from by decide]
  exact yX_at (.iconst (-1), 1, 0, 0, 0, 0, []) rfl
theorem g70_71 {x : Int32} : Y70 d Q 71 lv [.int x] σ ↔ Q (some (.int x)) σ := yX_at (.ireturn, 1, 0, 0, 0, 0, []) rfl
theorem g70_72  : Y70 d Q 72 lv st σ ↔ zldR lv 0 (fun x => Y70 d Q 73 lv (.ref x :: st) σ) := yX_at (.aload_n 0, 1, 0, 0, 0, 0, []) rfl
theorem g70_73 {c : Nat} : Y70 d Q 73 lv (.ref c :: st) σ ↔ zK c = 6 ∧ Y70 d Q 76 lv (zfv σ c 6 :: st) σ := yX_at (.getfield 44, 3, 6, 6, 146, 0, []) rfl
theorem g70_76  : Y70 d Q 76 lv st σ ↔ zldI lv 1 (fun x => Y70 d Q 77 lv (.int x :: st) σ) := yX_at (.iload_n 1, 1, 0, 0, 0, 0, []) rfl
theorem g70_77  : Y70 d Q 77 lv st σ ↔ zldI lv 2 (fun x => Y70 d Q 78 lv (.int x :: st) σ) := yX_at (.iload_n 2, 1, 0, 0, 0, 0, []) rfl
theorem g70_78  : Y70 d Q 78 lv st σ ↔ zldI lv 3 (fun x => Y70 d Q 79 lv (.int x :: st) σ) := yX_at (.iload_n 3, 1, 0, 0, 0, 0, []) rfl
theorem g70_79  : Y70 d Q 79 lv st σ ↔ zldI lv 4 (fun x => Y70 d Q 81 lv (.int x :: st) σ) := yX_at (.iload 4, 2, 0, 0, 0, 0, []) rfl
theorem g70_81 {v0 v1 v2 v3 : Value} {c : Nat} : Y70 d Q 81 lv (v3 :: v2 :: v1 :: v0 :: .ref c :: st) σ ↔ (zrcv 0 c ∧ zrm st) ∧ ∃ rv σ', yE d 0 [.ref c, v0, v1, v2, v3] σ rv σ' ∧ Y70 d Q 84 lv (rv.toList ++ st) σ' := yX_at (.invokevirtual 178, 3, 0, 4, 149, 0, []) rfl
theorem g70_84  : Y70 d Q 84 lv st σ ↔ zldR lv 0 (fun x => Y70 d Q 85 lv (.ref x :: st) σ) := yX_at (.aload_n 0, 1, 0, 0, 0, 0, []) rfl
theorem g70_85 {c : Nat} : Y70 d Q 85 lv (.ref c :: st) σ ↔ zK c = 6 ∧ Y70 d Q 88 lv (zfv σ c 6 :: st) σ := yX_at (.getfield 44, 3, 6, 6, 146, 0, []) rfl
theorem g70_88 {c : Nat} : Y70 d Q 88 lv (.ref c :: st) σ ↔ (zrcv 0 c ∧ zrm st) ∧ ∃ rv σ', yE d 1 [.ref c] σ rv σ' ∧ Y70 d Q 91 lv (rv.toList ++ st) σ' := yX_at (.invokevirtual 172, 3, 1, 0, 147, 0, []) rfl
theorem g70_91 {x : Int32} : Y70 d Q 91 lv [.int x] σ ↔ Q (some (.int x)) σ := yX_at (.ireturn, 1, 0, 0, 0, 0, []) rfl
end G70
def Y71 (d : Nat) (Q : Option Value → zSt → Prop) (pc : Nat) (lv : zLv) (st : List Value) (σ : zSt) : Prop := yX (yE d) ySn zt71 Q pc lv st σ
theorem C71 {d : Nat} {as : List Value} {σ : zSt} {P : Option Value → zSt → Prop} (hl : (lg_sl as).length ≤ 4) (h : Y71 d P 0 (lv_args 0 as) [] σ) : yC (d + 1) 71 as σ P := yC_of (by decide) hl h
section G71
variable {d : Nat} {Q : Option Value → zSt → Prop} {lv : zLv} {st : List Value} {σ : zSt}
theorem g71_0  : Y71 d Q 0 lv st σ ↔ zldR lv 0 (fun x => Y71 d Q 1 lv (.ref x :: st) σ) := yX_at (.aload_n 0, 1, 0, 0, 0, 0, []) rfl
theorem g71_1 {c : Nat} : Y71 d Q 1 lv (.ref c :: st) σ ↔ zK c = 6 ∧ Y71 d Q 4 lv (zfv σ c 1 :: st) σ := yX_at (.getfield 19, 3, 6, 1, 112, 0, []) rfl
theorem g71_4  : Y71 d Q 4 lv st σ ↔ zldI lv 1 (fun x => Y71 d Q 5 lv (.int x :: st) σ) := yX_at (.iload_n 1, 1, 0, 0, 0, 0, []) rfl
theorem g71_5 {v0 : Value} {c : Nat} : Y71 d Q 5 lv (v0 :: .ref c :: st) σ ↔ (zrcv 5 c ∧ zrm st) ∧ ∃ rv σ', yE d 50 [.ref c, v0] σ rv σ' ∧ Y71 d Q 8 lv (rv.toList ++ st) σ' := yX_at (.invokevirtual 77, 3, 50, 1, 116, 0, []) rfl
theorem g71_8 {x : Int32} : Y71 d Q 8 lv (.int x :: st) σ ↔ (x = 0 → Y71 d Q 30 lv st σ) ∧ (¬ x = 0 → Y71 d Q 11 lv st σ) := yX_at (.ifCond .eq 22, 3, 30, 0, 0, 0, []) rfl
theorem g71_11  : Y71 d Q 11 lv st σ ↔ zldI lv 2 (fun x => Y71 d Q 12 lv (.int x :: st) σ) := yX_at (.iload_n 2, 1, 0, 0, 0, 0, []) rfl
theorem g71_12 {x : Int32} : Y71 d Q 12 lv (.int x :: st) σ ↔ (x < 0 → Y71 d Q 30 lv st σ) ∧ (¬ x < 0 → Y71 d Q 15 lv st σ) := yX_at (.ifCond .lt 18, 3, 30, 0, 0, 0, []) rfl
theorem g71_15  : Y71 d Q 15 lv st σ ↔ zldI lv 2 (fun x => Y71 d Q 16 lv (.int x :: st) σ) := yX_at (.iload_n 2, 1, 0, 0, 0, 0, []) rfl
theorem g71_16  : Y71 d Q 16 lv st σ ↔ Y71 d Q 18 lv (.int 6 :: st) σ := yX_at (.bipush 6, 2, 0, 0, 0, 0, []) rfl
theorem g71_18 {x y : Int32} : Y71 d Q 18 lv (.int y :: .int x :: st) σ ↔ (y < x → Y71 d Q 30 lv st σ) ∧ (¬ y < x → Y71 d Q 21 lv st σ) := yX_at (.if_icmp .gt 12, 3, 30, 0, 0, 0, []) rfl
theorem g71_21  : Y71 d Q 21 lv st σ ↔ zldI lv 3 (fun x => Y71 d Q 22 lv (.int x :: st) σ) := yX_at (.iload_n 3, 1, 0, 0, 0, 0, []) rfl
theorem g71_22 {x : Int32} : Y71 d Q 22 lv (.int x :: st) σ ↔ (x < 0 → Y71 d Q 30 lv st σ) ∧ (¬ x < 0 → Y71 d Q 25 lv st σ) := yX_at (.ifCond .lt 8, 3, 30, 0, 0, 0, []) rfl
theorem g71_25  : Y71 d Q 25 lv st σ ↔ zldI lv 3 (fun x => Y71 d Q 26 lv (.int x :: st) σ) := yX_at (.iload_n 3, 1, 0, 0, 0, 0, []) rfl
theorem g71_26  : Y71 d Q 26 lv st σ ↔ Y71 d Q 27 lv (.int 1 :: st) σ := yX_at (.iconst 1, 1, 0, 0, 0, 0, []) rfl
theorem g71_27 {x y : Int32} : Y71 d Q 27 lv (.int y :: .int x :: st) σ ↔ (x ≤ y → Y71 d Q 34 lv st σ) ∧ (¬ x ≤ y → Y71 d Q 30 lv st σ) := yX_at (.if_icmp .le 7, 3, 34, 0, 0, 0, []) rfl
theorem g71_30  : Y71 d Q 30 lv st σ ↔ Y71 d Q 33 lv (.long (-1) :: st) σ := by
  rw [show (-1 : Int64) = Int64.ofInt (-1) from by decide]
  exact yX_at (.ldc2_w 181, 3, 0, 0, 150, (-1), []) rfl
theorem g71_33 {x : Int64} : Y71 d Q 33 lv [.long x] σ ↔ Q (some (.long x)) σ := yX_at (.lreturn, 1, 0, 0, 0, 0, []) rfl
theorem g71_34  : Y71 d Q 34 lv st σ ↔ zldR lv 0 (fun x => Y71 d Q 35 lv (.ref x :: st) σ) := yX_at (.aload_n 0, 1, 0, 0, 0, 0, []) rfl
theorem g71_35 {c : Nat} : Y71 d Q 35 lv (.ref c :: st) σ ↔ zK c = 6 ∧ Y71 d Q 38 lv (zfv σ c 6 :: st) σ := yX_at (.getfield 44, 3, 6, 6, 146, 0, []) rfl
theorem g71_38  : Y71 d Q 38 lv st σ ↔ zldI lv 2 (fun x => Y71 d Q 39 lv (.int x :: st) σ) := yX_at (.iload_n 2, 1, 0, 0, 0, 0, []) rfl
theorem g71_39  : Y71 d Q 39 lv st σ ↔ zldR lv 0 (fun x => Y71 d Q 40 lv (.ref x :: st) σ) := yX_at (.aload_n 0, 1, 0, 0, 0, 0, []) rfl
theorem g71_40 {c : Nat} : Y71 d Q 40 lv (.ref c :: st) σ ↔ zK c = 6 ∧ Y71 d Q 43 lv (zfv σ c 1 :: st) σ := yX_at (.getfield 19, 3, 6, 1, 112, 0, []) rfl
theorem g71_43 {c : Nat} : Y71 d Q 43 lv (.ref c :: st) σ ↔ zK c = 5 ∧ Y71 d Q 46 lv (zfv σ c 1 :: st) σ := yX_at (.getfield 81, 3, 5, 1, 117, 0, []) rfl
theorem g71_46  : Y71 d Q 46 lv st σ ↔ zldI lv 1 (fun x => Y71 d Q 47 lv (.int x :: st) σ) := yX_at (.iload_n 1, 1, 0, 0, 0, 0, []) rfl
theorem g71_47 {j : Int32} {c : Nat} : Y71 d Q 47 lv (.int j :: .ref c :: st) σ ↔ (zK c = 100 ∧ vp_in j (zLn c)) ∧ Y71 d Q 48 lv (.int (σ.1 c j.toNatClampNeg) :: st) σ := yX_at (.iaload, 1, 0, 0, 0, 0, []) rfl
theorem g71_48 {v0 v1 : Value} {c : Nat} : Y71 d Q 48 lv (v1 :: v0 :: .ref c :: st) σ ↔ (zrcv 0 c ∧ zrm st) ∧ ∃ rv σ', yE d 2 [.ref c, v0, v1] σ rv σ' ∧ Y71 d Q 51 lv (rv.toList ++ st) σ' := yX_at (.invokevirtual 183, 3, 2, 2, 151, 0, []) rfl
theorem g71_51  : Y71 d Q 51 lv st σ ↔ zldR lv 0 (fun x => Y71 d Q 52 lv (.ref x :: st) σ) := yX_at (.aload_n 0, 1, 0, 0, 0, 0, []) rfl
theorem g71_52 {c : Nat} : Y71 d Q 52 lv (.ref c :: st) σ ↔ zK c = 6 ∧ Y71 d Q 55 lv (zfv σ c 6 :: st) σ := yX_at (.getfield 44, 3, 6, 6, 146, 0, []) rfl
theorem g71_55  : Y71 d Q 55 lv st σ ↔ zldI lv 2 (fun x => Y71 d Q 56 lv (.int x :: st) σ) := yX_at (.iload_n 2, 1, 0, 0, 0, 0, []) rfl
theorem g71_56 {v0 : Value} {c : Nat} : Y71 d Q 56 lv (v0 :: .ref c :: st) σ ↔ (zrcv 0 c ∧ zrm st) ∧ ∃ rv σ', yE d 8 [.ref c, v0] σ rv σ' ∧ Y71 d Q 59 lv (rv.toList ++ st) σ' := yX_at (.invokevirtual 186, 3, 8, 1, 152, 0, []) rfl
theorem g71_59  : Y71 d Q 59 lv st σ ↔ zldI lv 3 (fun x => Y71 d Q 60 lv (.int x :: st) σ) := yX_at (.iload_n 3, 1, 0, 0, 0, 0, []) rfl
theorem g71_60 {x : Int32} : Y71 d Q 60 lv (.int x :: st) σ ↔ (¬ x = 0 → Y71 d Q 73 lv st σ) ∧ (x = 0 → Y71 d Q 63 lv st σ) := yX_at (.ifCond .ne 13, 3, 73, 0, 0, 0, []) rfl
theorem g71_63  : Y71 d Q 63 lv st σ ↔ zldR lv 0 (fun x => Y71 d Q 64 lv (.ref x :: st) σ) := yX_at (.aload_n 0, 1, 0, 0, 0, 0, []) rfl
theorem g71_64 {c : Nat} : Y71 d Q 64 lv (.ref c :: st) σ ↔ zK c = 6 ∧ Y71 d Q 67 lv (zfv σ c 6 :: st) σ := yX_at (.getfield 44, 3, 6, 6, 146, 0, []) rfl
theorem g71_67 {c : Nat} : Y71 d Q 67 lv (.ref c :: st) σ ↔ zK c = 0 ∧ Y71 d Q 70 lv (zfv σ c 5 :: st) σ := yX_at (.getfield 189, 3, 0, 5, 153, 0, []) rfl
theorem g71_70  : Y71 d Q 70 lv st σ ↔ Y71 d Q 80 lv st σ := yX_at (.goto 10, 3, 80, 0, 0, 0, []) rfl
theorem g71_73  : Y71 d Q 73 lv st σ ↔ zldR lv 0 (fun x => Y71 d Q 74 lv (.ref x :: st) σ) := yX_at (.aload_n 0, 1, 0, 0, 0, 0, []) rfl
theorem g71_74 {c : Nat} : Y71 d Q 74 lv (.ref c :: st) σ ↔ zK c = 6 ∧ Y71 d Q 77 lv (zfv σ c 6 :: st) σ := yX_at (.getfield 44, 3, 6, 6, 146, 0, []) rfl
theorem g71_77 {c : Nat} : Y71 d Q 77 lv (.ref c :: st) σ ↔ zK c = 0 ∧ Y71 d Q 80 lv (zfv σ c 6 :: st) σ := yX_at (.getfield 193, 3, 0, 6, 154, 0, []) rfl
theorem g71_80 {x : Int64} : Y71 d Q 80 lv [.long x] σ ↔ Q (some (.long x)) σ := yX_at (.lreturn, 1, 0, 0, 0, 0, []) rfl
end G71
def Y72 (d : Nat) (Q : Option Value → zSt → Prop) (pc : Nat) (lv : zLv) (st : List Value) (σ : zSt) : Prop := yX (yE d) ySn zt72 Q pc lv st σ
theorem C72 {d : Nat} {as : List Value} {σ : zSt} {P : Option Value → zSt → Prop} (hl : (lg_sl as).length ≤ 4) (h : Y72 d P 0 (lv_args 0 as) [] σ) : yC (d + 1) 72 as σ P := yC_of (by decide) hl h
section G72
variable {d : Nat} {Q : Option Value → zSt → Prop} {lv : zLv} {st : List Value} {σ : zSt}
theorem g72_0  : Y72 d Q 0 lv st σ ↔ zldI lv 1 (fun x => Y72 d Q 1 lv (.int x :: st) σ) := yX_at (.iload_n 1, 1, 0, 0, 0, 0, []) rfl
theorem g72_1 {x : Int32} : Y72 d Q 1 lv (.int x :: st) σ ↔ (x < 0 → Y72 d Q 21 lv st σ) ∧ (¬ x < 0 → Y72 d Q 4 lv st σ) := yX_at (.ifCond .lt 20, 3, 21, 0, 0, 0, []) rfl
theorem g72_4  : Y72 d Q 4 lv st σ ↔ zldI lv 1 (fun x => Y72 d Q 5 lv (.int x :: st) σ) := yX_at (.iload_n 1, 1, 0, 0, 0, 0, []) rfl
theorem g72_5  : Y72 d Q 5 lv st σ ↔ Y72 d Q 6 lv (.int 3 :: st) σ := yX_at (.iconst 3, 1, 0, 0, 0, 0, []) rfl
theorem g72_6 {x y : Int32} : Y72 d Q 6 lv (.int y :: .int x :: st) σ ↔ (y ≤ x → Y72 d Q 21 lv st σ) ∧ (¬ y ≤ x → Y72 d Q 9 lv st σ) := yX_at (.if_icmp .ge 15, 3, 21, 0, 0, 0, []) rfl
theorem g72_9  : Y72 d Q 9 lv st σ ↔ zldR lv 0 (fun x => Y72 d Q 10 lv (.ref x :: st) σ) := yX_at (.aload_n 0, 1, 0, 0, 0, 0, []) rfl
theorem g72_10 {c : Nat} : Y72 d Q 10 lv (.ref c :: st) σ ↔ zK c = 6 ∧ Y72 d Q 13 lv (zfv σ c 6 :: st) σ := yX_at (.getfield 44, 3, 6, 6, 146, 0, []) rfl
theorem g72_13 {c : Nat} : Y72 d Q 13 lv (.ref c :: st) σ ↔ zK c = 0 ∧ Y72 d Q 16 lv (zfv σ c 3 :: st) σ := yX_at (.getfield 196, 3, 0, 3, 155, 0, []) rfl
theorem g72_16  : Y72 d Q 16 lv st σ ↔ zldI lv 1 (fun x => Y72 d Q 17 lv (.int x :: st) σ) := yX_at (.iload_n 1, 1, 0, 0, 0, 0, []) rfl
theorem g72_17 {j : Int32} {c : Nat} : Y72 d Q 17 lv (.int j :: .ref c :: st) σ ↔ ((zK c = 101 ∨ zK c = 102) ∧ vp_in j (zLn c)) ∧ Y72 d Q 18 lv (.int (σ.1 c j.toNatClampNeg) :: st) σ := yX_at (.baload, 1, 0, 0, 0, 0, []) rfl
theorem g72_18 {x : Int32} : Y72 d Q 18 lv (.int x :: st) σ ↔ (¬ x = 0 → Y72 d Q 23 lv st σ) ∧ (x = 0 → Y72 d Q 21 lv st σ) := yX_at (.ifCond .ne 5, 3, 23, 0, 0, 0, []) rfl
theorem g72_21  : Y72 d Q 21 lv st σ ↔ Y72 d Q 22 lv (.int (-1) :: st) σ := by
  rw [show (-1 : Int32) = Int32.ofInt (-1) from by decide]
  exact yX_at (.iconst (-1), 1, 0, 0, 0, 0, []) rfl
theorem g72_22 {x : Int32} : Y72 d Q 22 lv [.int x] σ ↔ Q (some (.int x)) σ := yX_at (.ireturn, 1, 0, 0, 0, 0, []) rfl
theorem g72_23  : Y72 d Q 23 lv st σ ↔ zldI lv 2 (fun x => Y72 d Q 24 lv (.int x :: st) σ) := yX_at (.iload_n 2, 1, 0, 0, 0, 0, []) rfl
theorem g72_24  : Y72 d Q 24 lv st σ ↔ Y72 d Q 25 lv (.int 1 :: st) σ := yX_at (.iconst 1, 1, 0, 0, 0, 0, []) rfl
theorem g72_25 {x y : Int32} : Y72 d Q 25 lv (.int y :: .int x :: st) σ ↔ (x < y → Y72 d Q 44 lv st σ) ∧ (¬ x < y → Y72 d Q 28 lv st σ) := yX_at (.if_icmp .lt 19, 3, 44, 0, 0, 0, []) rfl
theorem g72_28  : Y72 d Q 28 lv st σ ↔ zldI lv 2 (fun x => Y72 d Q 29 lv (.int x :: st) σ) := yX_at (.iload_n 2, 1, 0, 0, 0, 0, []) rfl
theorem g72_29  : Y72 d Q 29 lv st σ ↔ Y72 d Q 31 lv (.int 6 :: st) σ := yX_at (.bipush 6, 2, 0, 0, 0, 0, []) rfl
theorem g72_31 {x y : Int32} : Y72 d Q 31 lv (.int y :: .int x :: st) σ ↔ (y < x → Y72 d Q 44 lv st σ) ∧ (¬ y < x → Y72 d Q 34 lv st σ) := yX_at (.if_icmp .gt 13, 3, 44, 0, 0, 0, []) rfl
theorem g72_34  : Y72 d Q 34 lv st σ ↔ zldI lv 3 (fun x => Y72 d Q 35 lv (.int x :: st) σ) := yX_at (.iload_n 3, 1, 0, 0, 0, 0, []) rfl
theorem g72_35  : Y72 d Q 35 lv st σ ↔ Y72 d Q 36 lv (.int 1 :: st) σ := yX_at (.iconst 1, 1, 0, 0, 0, 0, []) rfl
theorem g72_36 {x y : Int32} : Y72 d Q 36 lv (.int y :: .int x :: st) σ ↔ (x < y → Y72 d Q 44 lv st σ) ∧ (¬ x < y → Y72 d Q 39 lv st σ) := yX_at (.if_icmp .lt 8, 3, 44, 0, 0, 0, []) rfl
theorem g72_39  : Y72 d Q 39 lv st σ ↔ zldI lv 3 (fun x => Y72 d Q 40 lv (.int x :: st) σ) := yX_at (.iload_n 3, 1, 0, 0, 0, 0, []) rfl
theorem g72_40  : Y72 d Q 40 lv st σ ↔ Y72 d Q 41 lv (.int 5 :: st) σ := yX_at (.iconst 5, 1, 0, 0, 0, 0, []) rfl
theorem g72_41 {x y : Int32} : Y72 d Q 41 lv (.int y :: .int x :: st) σ ↔ (x ≤ y → Y72 d Q 46 lv st σ) ∧ (¬ x ≤ y → Y72 d Q 44 lv st σ) := yX_at (.if_icmp .le 5, 3, 46, 0, 0, 0, []) rfl
theorem g72_44  : Y72 d Q 44 lv st σ ↔ Y72 d Q 45 lv (.int (-1) :: st) σ := by
  rw [show (-1 : Int32) = Int32.ofInt (-1) from by decide]
  exact yX_at (.iconst (-1), 1, 0, 0, 0, 0, []) rfl
theorem g72_45 {x : Int32} : Y72 d Q 45 lv [.int x] σ ↔ Q (some (.int x)) σ := yX_at (.ireturn, 1, 0, 0, 0, 0, []) rfl
theorem g72_46  : Y72 d Q 46 lv st σ ↔ zldR lv 0 (fun x => Y72 d Q 47 lv (.ref x :: st) σ) := yX_at (.aload_n 0, 1, 0, 0, 0, 0, []) rfl
theorem g72_47 {c : Nat} : Y72 d Q 47 lv (.ref c :: st) σ ↔ zK c = 6 ∧ Y72 d Q 50 lv (zfv σ c 6 :: st) σ := yX_at (.getfield 44, 3, 6, 6, 146, 0, []) rfl
theorem g72_50  : Y72 d Q 50 lv st σ ↔ zldI lv 2 (fun x => Y72 d Q 51 lv (.int x :: st) σ) := yX_at (.iload_n 2, 1, 0, 0, 0, 0, []) rfl
theorem g72_51  : Y72 d Q 51 lv st σ ↔ Y72 d Q 52 lv (.int 1 :: st) σ := yX_at (.iconst 1, 1, 0, 0, 0, 0, []) rfl
theorem g72_52 {x y : Int32} : Y72 d Q 52 lv (.int y :: .int x :: st) σ ↔ Y72 d Q 53 lv (.int (x - y) :: st) σ := yX_at (.isub, 1, 0, 0, 0, 0, []) rfl
theorem g72_53  : Y72 d Q 53 lv st σ ↔ zldI lv 3 (fun x => Y72 d Q 54 lv (.int x :: st) σ) := yX_at (.iload_n 3, 1, 0, 0, 0, 0, []) rfl
theorem g72_54 {v0 v1 : Value} {c : Nat} : Y72 d Q 54 lv (v1 :: v0 :: .ref c :: st) σ ↔ (zrcv 0 c ∧ zrm st) ∧ ∃ rv σ', yE d 2 [.ref c, v0, v1] σ rv σ' ∧ Y72 d Q 57 lv (rv.toList ++ st) σ' := yX_at (.invokevirtual 183, 3, 2, 2, 151, 0, []) rfl
theorem g72_57  : Y72 d Q 57 lv st σ ↔ zldR lv 0 (fun x => Y72 d Q 58 lv (.ref x :: st) σ) := yX_at (.aload_n 0, 1, 0, 0, 0, 0, []) rfl
theorem g72_58 {c : Nat} : Y72 d Q 58 lv (.ref c :: st) σ ↔ zK c = 6 ∧ Y72 d Q 61 lv (zfv σ c 6 :: st) σ := yX_at (.getfield 44, 3, 6, 6, 146, 0, []) rfl
theorem g72_61  : Y72 d Q 61 lv st σ ↔ zldI lv 1 (fun x => Y72 d Q 62 lv (.int x :: st) σ) := yX_at (.iload_n 1, 1, 0, 0, 0, 0, []) rfl
theorem g72_62  : Y72 d Q 62 lv st σ ↔ zldI lv 2 (fun x => Y72 d Q 63 lv (.int x :: st) σ) := yX_at (.iload_n 2, 1, 0, 0, 0, 0, []) rfl
theorem g72_63 {v0 v1 : Value} {c : Nat} : Y72 d Q 63 lv (v1 :: v0 :: .ref c :: st) σ ↔ (zrcv 0 c ∧ zrm st) ∧ ∃ rv σ', yE d 7 [.ref c, v0, v1] σ rv σ' ∧ Y72 d Q 66 lv (rv.toList ++ st) σ' := yX_at (.invokevirtual 199, 3, 7, 2, 156, 0, []) rfl
theorem g72_66 {x : Int32} : Y72 d Q 66 lv (.int x :: st) σ ↔ (x = 0 → Y72 d Q 73 lv st σ) ∧ (¬ x = 0 → Y72 d Q 69 lv st σ) := yX_at (.ifCond .eq 7, 3, 73, 0, 0, 0, []) rfl
theorem g72_69  : Y72 d Q 69 lv st σ ↔ Y72 d Q 70 lv (.int 1 :: st) σ := yX_at (.iconst 1, 1, 0, 0, 0, 0, []) rfl
theorem g72_70  : Y72 d Q 70 lv st σ ↔ Y72 d Q 74 lv st σ := yX_at (.goto 4, 3, 74, 0, 0, 0, []) rfl
theorem g72_73  : Y72 d Q 73 lv st σ ↔ Y72 d Q 74 lv (.int 0 :: st) σ := yX_at (.iconst 0, 1, 0, 0, 0, 0, []) rfl
theorem g72_74 {x : Int32} : Y72 d Q 74 lv [.int x] σ ↔ Q (some (.int x)) σ := yX_at (.ireturn, 1, 0, 0, 0, 0, []) rfl
end G72
def Y73 (d : Nat) (Q : Option Value → zSt → Prop) (pc : Nat) (lv : zLv) (st : List Value) (σ : zSt) : Prop := yX (yE d) ySn zt73 Q pc lv st σ
theorem C73 {d : Nat} {as : List Value} {σ : zSt} {P : Option Value → zSt → Prop} (hl : (lg_sl as).length ≤ 1) (h : Y73 d P 0 (lv_args 0 as) [] σ) : yC (d + 1) 73 as σ P := yC_of (by decide) hl h
section G73
variable {d : Nat} {Q : Option Value → zSt → Prop} {lv : zLv} {st : List Value} {σ : zSt}
theorem g73_0  : Y73 d Q 0 lv st σ ↔ zldR lv 0 (fun x => Y73 d Q 1 lv (.ref x :: st) σ) := yX_at (.aload_n 0, 1, 0, 0, 0, 0, []) rfl
theorem g73_1 {c : Nat} : Y73 d Q 1 lv (.ref c :: st) σ ↔ zK c = 6 ∧ Y73 d Q 4 lv (zfv σ c 8 :: st) σ := yX_at (.getfield 58, 3, 6, 8, 157, 0, []) rfl
theorem g73_4  : Y73 d Q 4 lv st σ ↔ zldR lv 0 (fun x => Y73 d Q 5 lv (.ref x :: st) σ) := yX_at (.aload_n 0, 1, 0, 0, 0, 0, []) rfl
theorem g73_5 {c : Nat} : Y73 d Q 5 lv (.ref c :: st) σ ↔ zK c = 6 ∧ Y73 d Q 8 lv (zfv σ c 1 :: st) σ := yX_at (.getfield 19, 3, 6, 1, 112, 0, []) rfl
theorem g73_8  : Y73 d Q 8 lv st σ ↔ Y73 d Q 9 lv (.int 0 :: st) σ := yX_at (.iconst 0, 1, 0, 0, 0, 0, []) rfl
theorem g73_9 {v0 v1 : Value} {c : Nat} : Y73 d Q 9 lv (v1 :: v0 :: .ref c :: st) σ ↔ (zrcv 3 c ∧ zrm st) ∧ ∃ rv σ', yE d 33 [.ref c, v0, v1] σ rv σ' ∧ Y73 d Q 12 lv (rv.toList ++ st) σ' := yX_at (.invokevirtual 203, 3, 33, 2, 158, 0, []) rfl
theorem g73_12 {x : Int32} : Y73 d Q 12 lv (.int x :: st) σ ↔ (x = 0 → Y73 d Q 19 lv st σ) ∧ (¬ x = 0 → Y73 d Q 15 lv st σ) := yX_at (.ifCond .eq 7, 3, 19, 0, 0, 0, []) rfl
theorem g73_15  : Y73 d Q 15 lv st σ ↔ Y73 d Q 16 lv (.int 1 :: st) σ := yX_at (.iconst 1, 1, 0, 0, 0, 0, []) rfl
theorem g73_16  : Y73 d Q 16 lv st σ ↔ Y73 d Q 20 lv st σ := yX_at (.goto 4, 3, 20, 0, 0, 0, []) rfl
theorem g73_19  : Y73 d Q 19 lv st σ ↔ Y73 d Q 20 lv (.int 0 :: st) σ := yX_at (.iconst 0, 1, 0, 0, 0, 0, []) rfl
theorem g73_20 {x : Int32} : Y73 d Q 20 lv [.int x] σ ↔ Q (some (.int x)) σ := yX_at (.ireturn, 1, 0, 0, 0, 0, []) rfl
end G73
def Y74 (d : Nat) (Q : Option Value → zSt → Prop) (pc : Nat) (lv : zLv) (st : List Value) (σ : zSt) : Prop := yX (yE d) ySn zt74 Q pc lv st σ
theorem C74 {d : Nat} {as : List Value} {σ : zSt} {P : Option Value → zSt → Prop} (hl : (lg_sl as).length ≤ 2) (h : Y74 d P 0 (lv_args 0 as) [] σ) : yC (d + 1) 74 as σ P := yC_of (by decide) hl h
section G74
variable {d : Nat} {Q : Option Value → zSt → Prop} {lv : zLv} {st : List Value} {σ : zSt}
theorem g74_0  : Y74 d Q 0 lv st σ ↔ zldI lv 1 (fun x => Y74 d Q 1 lv (.int x :: st) σ) := yX_at (.iload_n 1, 1, 0, 0, 0, 0, []) rfl
theorem g74_1 {x : Int32} : Y74 d Q 1 lv (.int x :: st) σ ↔ (0 ≤ x → Y74 d Q 6 lv st σ) ∧ (¬ 0 ≤ x → Y74 d Q 4 lv st σ) := yX_at (.ifCond .ge 5, 3, 6, 0, 0, 0, []) rfl
theorem g74_4  : Y74 d Q 4 lv st σ ↔ Y74 d Q 5 lv (.int (-1) :: st) σ := by
  rw [show (-1 : Int32) = Int32.ofInt (-1) from by decide]
  exact yX_at (.iconst (-1), 1, 0, 0, 0, 0, []) rfl
theorem g74_5 {x : Int32} : Y74 d Q 5 lv [.int x] σ ↔ Q (some (.int x)) σ := yX_at (.ireturn, 1, 0, 0, 0, 0, []) rfl
theorem g74_6  : Y74 d Q 6 lv st σ ↔ zldR lv 0 (fun x => Y74 d Q 7 lv (.ref x :: st) σ) := yX_at (.aload_n 0, 1, 0, 0, 0, 0, []) rfl
theorem g74_7 {c : Nat} : Y74 d Q 7 lv (.ref c :: st) σ ↔ zK c = 6 ∧ Y74 d Q 10 lv (zfv σ c 8 :: st) σ := yX_at (.getfield 58, 3, 6, 8, 157, 0, []) rfl
theorem g74_10  : Y74 d Q 10 lv st σ ↔ zldR lv 0 (fun x => Y74 d Q 11 lv (.ref x :: st) σ) := yX_at (.aload_n 0, 1, 0, 0, 0, 0, []) rfl
theorem g74_11 {c : Nat} : Y74 d Q 11 lv (.ref c :: st) σ ↔ zK c = 6 ∧ Y74 d Q 14 lv (zfv σ c 1 :: st) σ := yX_at (.getfield 19, 3, 6, 1, 112, 0, []) rfl
theorem g74_14  : Y74 d Q 14 lv st σ ↔ Y74 d Q 15 lv (.int 0 :: st) σ := yX_at (.iconst 0, 1, 0, 0, 0, 0, []) rfl
theorem g74_15 {v0 v1 : Value} {c : Nat} : Y74 d Q 15 lv (v1 :: v0 :: .ref c :: st) σ ↔ (zrcv 3 c ∧ zrm st) ∧ ∃ rv σ', yE d 33 [.ref c, v0, v1] σ rv σ' ∧ Y74 d Q 18 lv (rv.toList ++ st) σ' := yX_at (.invokevirtual 203, 3, 33, 2, 158, 0, []) rfl
theorem g74_18 {x : Int32} : Y74 d Q 18 lv (.int x :: st) σ ↔ (x = 0 → Y74 d Q 24 lv st σ) ∧ (¬ x = 0 → Y74 d Q 21 lv st σ) := yX_at (.ifCond .eq 6, 3, 24, 0, 0, 0, []) rfl
theorem g74_21  : Y74 d Q 21 lv st σ ↔ Y74 d Q 23 lv (.int (-9) :: st) σ := by
  rw [show (-9 : Int32) = (Int8.ofInt (-9)).toInt32 from by decide]
  exact yX_at (.bipush (-9), 2, 0, 0, 0, 0, []) rfl
theorem g74_23 {x : Int32} : Y74 d Q 23 lv [.int x] σ ↔ Q (some (.int x)) σ := yX_at (.ireturn, 1, 0, 0, 0, 0, []) rfl
theorem g74_24  : Y74 d Q 24 lv st σ ↔ zldI lv 1 (fun x => Y74 d Q 25 lv (.int x :: st) σ) := yX_at (.iload_n 1, 1, 0, 0, 0, 0, []) rfl
theorem g74_25  : Y74 d Q 25 lv st σ ↔ zldR lv 0 (fun x => Y74 d Q 26 lv (.ref x :: st) σ) := yX_at (.aload_n 0, 1, 0, 0, 0, 0, []) rfl
theorem g74_26 {c : Nat} : Y74 d Q 26 lv (.ref c :: st) σ ↔ zK c = 6 ∧ Y74 d Q 29 lv (zfv σ c 1 :: st) σ := yX_at (.getfield 19, 3, 6, 1, 112, 0, []) rfl
theorem g74_29 {c : Nat} : Y74 d Q 29 lv (.ref c :: st) σ ↔ zK c = 5 ∧ Y74 d Q 32 lv (zfv σ c 4 :: st) σ := yX_at (.getfield 207, 3, 5, 4, 159, 0, []) rfl
theorem g74_32 {x y : Int32} : Y74 d Q 32 lv (.int y :: .int x :: st) σ ↔ (y ≤ x → Y74 d Q 47 lv st σ) ∧ (¬ y ≤ x → Y74 d Q 35 lv st σ) := yX_at (.if_icmp .ge 15, 3, 47, 0, 0, 0, []) rfl
theorem g74_35  : Y74 d Q 35 lv st σ ↔ zldR lv 0 (fun x => Y74 d Q 36 lv (.ref x :: st) σ) := yX_at (.aload_n 0, 1, 0, 0, 0, 0, []) rfl
theorem g74_36 {c : Nat} : Y74 d Q 36 lv (.ref c :: st) σ ↔ zK c = 6 ∧ Y74 d Q 39 lv (zfv σ c 8 :: st) σ := yX_at (.getfield 58, 3, 6, 8, 157, 0, []) rfl
theorem g74_39 {c : Nat} : Y74 d Q 39 lv (.ref c :: st) σ ↔ zK c = 3 ∧ Y74 d Q 42 lv (zfv σ c 0 :: st) σ := yX_at (.getfield 210, 3, 3, 0, 160, 0, []) rfl
theorem g74_42  : Y74 d Q 42 lv st σ ↔ zldI lv 1 (fun x => Y74 d Q 43 lv (.int x :: st) σ) := yX_at (.iload_n 1, 1, 0, 0, 0, 0, []) rfl
theorem g74_43 {j : Int32} {c : Nat} : Y74 d Q 43 lv (.int j :: .ref c :: st) σ ↔ (zK c = 100 ∧ vp_in j (zLn c)) ∧ Y74 d Q 44 lv (.int (σ.1 c j.toNatClampNeg) :: st) σ := yX_at (.iaload, 1, 0, 0, 0, 0, []) rfl
theorem g74_44  : Y74 d Q 44 lv st σ ↔ Y74 d Q 49 lv st σ := yX_at (.goto 5, 3, 49, 0, 0, 0, []) rfl
theorem g74_47  : Y74 d Q 47 lv st σ ↔ Y74 d Q 49 lv (.int (-5) :: st) σ := by
  rw [show (-5 : Int32) = (Int8.ofInt (-5)).toInt32 from by decide]
  exact yX_at (.bipush (-5), 2, 0, 0, 0, 0, []) rfl
theorem g74_49 {x : Int32} : Y74 d Q 49 lv [.int x] σ ↔ Q (some (.int x)) σ := yX_at (.ireturn, 1, 0, 0, 0, 0, []) rfl
end G74
def Y75 (d : Nat) (Q : Option Value → zSt → Prop) (pc : Nat) (lv : zLv) (st : List Value) (σ : zSt) : Prop := yX (yE d) ySn zt75 Q pc lv st σ
theorem C75 {d : Nat} {as : List Value} {σ : zSt} {P : Option Value → zSt → Prop} (hl : (lg_sl as).length ≤ 3) (h : Y75 d P 0 (lv_args 0 as) [] σ) : yC (d + 1) 75 as σ P := yC_of (by decide) hl h
section G75
variable {d : Nat} {Q : Option Value → zSt → Prop} {lv : zLv} {st : List Value} {σ : zSt}
theorem g75_0  : Y75 d Q 0 lv st σ ↔ zldI lv 1 (fun x => Y75 d Q 1 lv (.int x :: st) σ) := yX_at (.iload_n 1, 1, 0, 0, 0, 0, []) rfl
theorem g75_1 {x : Int32} : Y75 d Q 1 lv (.int x :: st) σ ↔ (x < 0 → Y75 d Q 9 lv st σ) ∧ (¬ x < 0 → Y75 d Q 4 lv st σ) := yX_at (.ifCond .lt 8, 3, 9, 0, 0, 0, []) rfl
theorem g75_4  : Y75 d Q 4 lv st σ ↔ zldI lv 1 (fun x => Y75 d Q 5 lv (.int x :: st) σ) := yX_at (.iload_n 1, 1, 0, 0, 0, 0, []) rfl
theorem g75_5  : Y75 d Q 5 lv st σ ↔ Y75 d Q 6 lv (.int 1 :: st) σ := yX_at (.iconst 1, 1, 0, 0, 0, 0, []) rfl
theorem g75_6 {x y : Int32} : Y75 d Q 6 lv (.int y :: .int x :: st) σ ↔ (x ≤ y → Y75 d Q 11 lv st σ) ∧ (¬ x ≤ y → Y75 d Q 9 lv st σ) := yX_at (.if_icmp .le 5, 3, 11, 0, 0, 0, []) rfl
theorem g75_9  : Y75 d Q 9 lv st σ ↔ Y75 d Q 10 lv (.int (-1) :: st) σ := by
  rw [show (-1 : Int32) = Int32.ofInt (-1) from by decide]
  exact yX_at (.iconst (-1), 1, 0, 0, 0, 0, []) rfl
theorem g75_10 {x : Int32} : Y75 d Q 10 lv [.int x] σ ↔ Q (some (.int x)) σ := yX_at (.ireturn, 1, 0, 0, 0, 0, []) rfl
theorem g75_11  : Y75 d Q 11 lv st σ ↔ zldR lv 0 (fun x => Y75 d Q 12 lv (.ref x :: st) σ) := yX_at (.aload_n 0, 1, 0, 0, 0, 0, []) rfl
theorem g75_12 {c : Nat} : Y75 d Q 12 lv (.ref c :: st) σ ↔ zK c = 6 ∧ Y75 d Q 15 lv (zfv σ c 8 :: st) σ := yX_at (.getfield 58, 3, 6, 8, 157, 0, []) rfl
theorem g75_15  : Y75 d Q 15 lv st σ ↔ zldR lv 0 (fun x => Y75 d Q 16 lv (.ref x :: st) σ) := yX_at (.aload_n 0, 1, 0, 0, 0, 0, []) rfl
theorem g75_16 {c : Nat} : Y75 d Q 16 lv (.ref c :: st) σ ↔ zK c = 6 ∧ Y75 d Q 19 lv (zfv σ c 1 :: st) σ := yX_at (.getfield 19, 3, 6, 1, 112, 0, []) rfl
theorem g75_19 {v0 : Value} {c : Nat} : Y75 d Q 19 lv (v0 :: .ref c :: st) σ ↔ (zrcv 3 c ∧ zrm st) ∧ ∃ rv σ', yE d 35 [.ref c, v0] σ rv σ' ∧ Y75 d Q 22 lv (rv.toList ++ st) σ' := yX_at (.invokevirtual 213, 3, 35, 1, 161, 0, []) rfl
theorem g75_22 {x : Int32} : Y75 d Q 22 lv (.int x :: st) σ ↔ Y75 d Q 23 (zs1 2 (.int x) lv) st σ := yX_at (.istore_n 2, 1, 0, 0, 0, 0, []) rfl
theorem g75_23  : Y75 d Q 23 lv st σ ↔ zldI lv 1 (fun x => Y75 d Q 24 lv (.int x :: st) σ) := yX_at (.iload_n 1, 1, 0, 0, 0, 0, []) rfl
theorem g75_24 {x : Int32} : Y75 d Q 24 lv (.int x :: st) σ ↔ (¬ x = 0 → Y75 d Q 34 lv st σ) ∧ (x = 0 → Y75 d Q 27 lv st σ) := yX_at (.ifCond .ne 10, 3, 34, 0, 0, 0, []) rfl
theorem g75_27  : Y75 d Q 27 lv st σ ↔ zldI lv 2 (fun x => Y75 d Q 28 lv (.int x :: st) σ) := yX_at (.iload_n 2, 1, 0, 0, 0, 0, []) rfl
theorem g75_28 {v0 : Value} : Y75 d Q 28 lv (v0 :: st) σ ↔ zrm st ∧ ∃ rv σ', yE d 146 [v0] σ rv σ' ∧ Y75 d Q 31 lv (rv.toList ++ st) σ' := yX_at (.invokestatic 216, 3, 146, 1, 162, 0, []) rfl
theorem g75_31  : Y75 d Q 31 lv st σ ↔ Y75 d Q 35 lv st σ := yX_at (.goto 4, 3, 35, 0, 0, 0, []) rfl
theorem g75_34  : Y75 d Q 34 lv st σ ↔ zldI lv 2 (fun x => Y75 d Q 35 lv (.int x :: st) σ) := yX_at (.iload_n 2, 1, 0, 0, 0, 0, []) rfl
theorem g75_35 {x : Int32} : Y75 d Q 35 lv [.int x] σ ↔ Q (some (.int x)) σ := yX_at (.ireturn, 1, 0, 0, 0, 0, []) rfl
end G75
def Y76 (d : Nat) (Q : Option Value → zSt → Prop) (pc : Nat) (lv : zLv) (st : List Value) (σ : zSt) : Prop := yX (yE d) ySn zt76 Q pc lv st σ
theorem C76 {d : Nat} {as : List Value} {σ : zSt} {P : Option Value → zSt → Prop} (hl : (lg_sl as).length ≤ 12) (h : Y76 d P 0 (lv_args 0 as) [] σ) : yC (d + 1) 76 as σ P := yC_of (by decide) hl h
section G76
variable {d : Nat} {Q : Option Value → zSt → Prop} {lv : zLv} {st : List Value} {σ : zSt}
theorem g76_0  : Y76 d Q 0 lv st σ ↔ zldI lv 1 (fun x => Y76 d Q 1 lv (.int x :: st) σ) := yX_at (.iload_n 1, 1, 0, 0, 0, 0, []) rfl
theorem g76_1  : Y76 d Q 1 lv st σ ↔ Y76 d Q 2 lv (.int 1 :: st) σ := yX_at (.iconst 1, 1, 0, 0, 0, 0, []) rfl
theorem g76_2 {x y : Int32} : Y76 d Q 2 lv (.int y :: .int x :: st) σ ↔ (x < y → Y76 d Q 37 lv st σ) ∧ (¬ x < y → Y76 d Q 5 lv st σ) := yX_at (.if_icmp .lt 35, 3, 37, 0, 0, 0, []) rfl
theorem g76_5  : Y76 d Q 5 lv st σ ↔ zldI lv 1 (fun x => Y76 d Q 6 lv (.int x :: st) σ) := yX_at (.iload_n 1, 1, 0, 0, 0, 0, []) rfl
theorem g76_6  : Y76 d Q 6 lv st σ ↔ Y76 d Q 8 lv (.int 99 :: st) σ := yX_at (.bipush 99, 2, 0, 0, 0, 0, []) rfl
theorem g76_8 {x y : Int32} : Y76 d Q 8 lv (.int y :: .int x :: st) σ ↔ (y < x → Y76 d Q 37 lv st σ) ∧ (¬ y < x → Y76 d Q 11 lv st σ) := yX_at (.if_icmp .gt 29, 3, 37, 0, 0, 0, []) rfl
theorem g76_11  : Y76 d Q 11 lv st σ ↔ zldI lv 2 (fun x => Y76 d Q 12 lv (.int x :: st) σ) := yX_at (.iload_n 2, 1, 0, 0, 0, 0, []) rfl
theorem g76_12  : Y76 d Q 12 lv st σ ↔ zldR lv 0 (fun x => Y76 d Q 13 lv (.ref x :: st) σ) := yX_at (.aload_n 0, 1, 0, 0, 0, 0, []) rfl
theorem g76_13 {c : Nat} : Y76 d Q 13 lv (.ref c :: st) σ ↔ zK c = 6 ∧ Y76 d Q 16 lv (zfv σ c 3 :: st) σ := yX_at (.getfield 29, 3, 6, 3, 113, 0, []) rfl
theorem g76_16 {c : Nat} : Y76 d Q 16 lv (.ref c :: st) σ ↔ zK c = 2 ∧ Y76 d Q 19 lv (zfv σ c 0 :: st) σ := yX_at (.getfield 125, 3, 2, 0, 131, 0, []) rfl
theorem g76_19 {x y : Int32} : Y76 d Q 19 lv (.int y :: .int x :: st) σ ↔ (x < y → Y76 d Q 37 lv st σ) ∧ (¬ x < y → Y76 d Q 22 lv st σ) := yX_at (.if_icmp .lt 18, 3, 37, 0, 0, 0, []) rfl
theorem g76_22  : Y76 d Q 22 lv st σ ↔ zldI lv 2 (fun x => Y76 d Q 23 lv (.int x :: st) σ) := yX_at (.iload_n 2, 1, 0, 0, 0, 0, []) rfl
theorem g76_23  : Y76 d Q 23 lv st σ ↔ Y76 d Q 25 lv (.int 9 :: st) σ := yX_at (.bipush 9, 2, 0, 0, 0, 0, []) rfl
theorem g76_25 {x y : Int32} : Y76 d Q 25 lv (.int y :: .int x :: st) σ ↔ (y < x → Y76 d Q 37 lv st σ) ∧ (¬ y < x → Y76 d Q 28 lv st σ) := yX_at (.if_icmp .gt 12, 3, 37, 0, 0, 0, []) rfl
theorem g76_28  : Y76 d Q 28 lv st σ ↔ zldI lv 3 (fun x => Y76 d Q 29 lv (.int x :: st) σ) := yX_at (.iload_n 3, 1, 0, 0, 0, 0, []) rfl
theorem g76_29 {x : Int32} : Y76 d Q 29 lv (.int x :: st) σ ↔ (x < 0 → Y76 d Q 37 lv st σ) ∧ (¬ x < 0 → Y76 d Q 32 lv st σ) := yX_at (.ifCond .lt 8, 3, 37, 0, 0, 0, []) rfl
theorem g76_32  : Y76 d Q 32 lv st σ ↔ zldI lv 3 (fun x => Y76 d Q 33 lv (.int x :: st) σ) := yX_at (.iload_n 3, 1, 0, 0, 0, 0, []) rfl
theorem g76_33  : Y76 d Q 33 lv st σ ↔ Y76 d Q 34 lv (.int 1 :: st) σ := yX_at (.iconst 1, 1, 0, 0, 0, 0, []) rfl
theorem g76_34 {x y : Int32} : Y76 d Q 34 lv (.int y :: .int x :: st) σ ↔ (x ≤ y → Y76 d Q 39 lv st σ) ∧ (¬ x ≤ y → Y76 d Q 37 lv st σ) := yX_at (.if_icmp .le 5, 3, 39, 0, 0, 0, []) rfl
theorem g76_37  : Y76 d Q 37 lv st σ ↔ Y76 d Q 38 lv (.int (-1) :: st) σ := by
  rw [show (-1 : Int32) = Int32.ofInt (-1) from by decide]
  exact yX_at (.iconst (-1), 1, 0, 0, 0, 0, []) rfl
theorem g76_38 {x : Int32} : Y76 d Q 38 lv [.int x] σ ↔ Q (some (.int x)) σ := yX_at (.ireturn, 1, 0, 0, 0, 0, []) rfl
theorem g76_39  : Y76 d Q 39 lv st σ ↔ zldI lv 2 (fun x => Y76 d Q 40 lv (.int x :: st) σ) := yX_at (.iload_n 2, 1, 0, 0, 0, 0, []) rfl
theorem g76_40  : Y76 d Q 40 lv st σ ↔ zldR lv 0 (fun x => Y76 d Q 41 lv (.ref x :: st) σ) := yX_at (.aload_n 0, 1, 0, 0, 0, 0, []) rfl
theorem g76_41 {c : Nat} : Y76 d Q 41 lv (.ref c :: st) σ ↔ zK c = 6 ∧ Y76 d Q 44 lv (zfv σ c 3 :: st) σ := yX_at (.getfield 29, 3, 6, 3, 113, 0, []) rfl
theorem g76_44 {c : Nat} : Y76 d Q 44 lv (.ref c :: st) σ ↔ zK c = 2 ∧ Y76 d Q 47 lv (zfv σ c 0 :: st) σ := yX_at (.getfield 125, 3, 2, 0, 131, 0, []) rfl
theorem g76_47 {x y : Int32} : Y76 d Q 47 lv (.int y :: .int x :: st) σ ↔ Y76 d Q 48 lv (.int (x - y) :: st) σ := yX_at (.isub, 1, 0, 0, 0, 0, []) rfl
theorem g76_48  : Y76 d Q 48 lv st σ ↔ Y76 d Q 49 lv (.int 1 :: st) σ := yX_at (.iconst 1, 1, 0, 0, 0, 0, []) rfl
theorem g76_49 {x y : Int32} : Y76 d Q 49 lv (.int y :: .int x :: st) σ ↔ Y76 d Q 50 lv (.int (x + y) :: st) σ := yX_at (.iadd, 1, 0, 0, 0, 0, []) rfl
theorem g76_50 {x : Int32} : Y76 d Q 50 lv (.int x :: st) σ ↔ Y76 d Q 52 (zs1 4 (.int x) lv) st σ := yX_at (.istore 4, 2, 0, 0, 0, 0, []) rfl
theorem g76_52  : Y76 d Q 52 lv st σ ↔ zldI lv 1 (fun x => Y76 d Q 53 lv (.int x :: st) σ) := yX_at (.iload_n 1, 1, 0, 0, 0, 0, []) rfl
theorem g76_53 {x : Int32} : Y76 d Q 53 lv (.int x :: st) σ ↔ Y76 d Q 55 (zs1 5 (.int x) lv) st σ := yX_at (.istore 5, 2, 0, 0, 0, 0, []) rfl
theorem g76_55  : Y76 d Q 55 lv st σ ↔ Y76 d Q 56 lv (.int 0 :: st) σ := yX_at (.iconst 0, 1, 0, 0, 0, 0, []) rfl
theorem g76_56 {x : Int32} : Y76 d Q 56 lv (.int x :: st) σ ↔ Y76 d Q 58 (zs1 6 (.int x) lv) st σ := yX_at (.istore 6, 2, 0, 0, 0, 0, []) rfl
theorem g76_58  : Y76 d Q 58 lv st σ ↔ Y76 d Q 59 lv (.int 0 :: st) σ := yX_at (.iconst 0, 1, 0, 0, 0, 0, []) rfl
theorem g76_59 {x : Int32} : Y76 d Q 59 lv (.int x :: st) σ ↔ Y76 d Q 61 (zs1 7 (.int x) lv) st σ := yX_at (.istore 7, 2, 0, 0, 0, 0, []) rfl
theorem g76_61  : Y76 d Q 61 lv st σ ↔ Y76 d Q 62 lv (.int 0 :: st) σ := yX_at (.iconst 0, 1, 0, 0, 0, 0, []) rfl
theorem g76_62 {x : Int32} : Y76 d Q 62 lv (.int x :: st) σ ↔ Y76 d Q 64 (zs1 8 (.int x) lv) st σ := yX_at (.istore 8, 2, 0, 0, 0, 0, []) rfl
theorem g76_64  : Y76 d Q 64 lv st σ ↔ Y76 d Q 65 lv (.int 0 :: st) σ := yX_at (.iconst 0, 1, 0, 0, 0, 0, []) rfl
theorem g76_65 {x : Int32} : Y76 d Q 65 lv (.int x :: st) σ ↔ Y76 d Q 67 (zs1 9 (.int x) lv) st σ := yX_at (.istore 9, 2, 0, 0, 0, 0, []) rfl
theorem g76_67  : Y76 d Q 67 lv st σ ↔ zldI lv 9 (fun x => Y76 d Q 69 lv (.int x :: st) σ) := yX_at (.iload 9, 2, 0, 0, 0, 0, []) rfl
theorem g76_69  : Y76 d Q 69 lv st σ ↔ zldR lv 0 (fun x => Y76 d Q 70 lv (.ref x :: st) σ) := yX_at (.aload_n 0, 1, 0, 0, 0, 0, []) rfl
theorem g76_70 {c : Nat} : Y76 d Q 70 lv (.ref c :: st) σ ↔ zK c = 6 ∧ Y76 d Q 73 lv (zfv σ c 1 :: st) σ := yX_at (.getfield 19, 3, 6, 1, 112, 0, []) rfl
theorem g76_73 {c : Nat} : Y76 d Q 73 lv (.ref c :: st) σ ↔ zK c = 5 ∧ Y76 d Q 76 lv (zfv σ c 0 :: st) σ := yX_at (.getfield 222, 3, 5, 0, 163, 0, []) rfl
theorem g76_76 {x y : Int32} : Y76 d Q 76 lv (.int y :: .int x :: st) σ ↔ (y ≤ x → Y76 d Q 161 lv st σ) ∧ (¬ y ≤ x → Y76 d Q 79 lv st σ) := yX_at (.if_icmp .ge 85, 3, 161, 0, 0, 0, []) rfl
theorem g76_79  : Y76 d Q 79 lv st σ ↔ zldI lv 5 (fun x => Y76 d Q 81 lv (.int x :: st) σ) := yX_at (.iload 5, 2, 0, 0, 0, 0, []) rfl
theorem g76_81 {x : Int32} : Y76 d Q 81 lv (.int x :: st) σ ↔ (x ≤ 0 → Y76 d Q 161 lv st σ) ∧ (¬ x ≤ 0 → Y76 d Q 84 lv st σ) := yX_at (.ifCond .le 80, 3, 161, 0, 0, 0, []) rfl
theorem g76_84  : Y76 d Q 84 lv st σ ↔ zldR lv 0 (fun x => Y76 d Q 85 lv (.ref x :: st) σ) := yX_at (.aload_n 0, 1, 0, 0, 0, 0, []) rfl
theorem g76_85  : Y76 d Q 85 lv st σ ↔ zldI lv 8 (fun x => Y76 d Q 87 lv (.int x :: st) σ) := yX_at (.iload 8, 2, 0, 0, 0, 0, []) rfl
theorem g76_87 {v0 : Value} {c : Nat} : Y76 d Q 87 lv (v0 :: .ref c :: st) σ ↔ (zrcv 6 c ∧ zrm st) ∧ ∃ rv σ', yE d 83 [.ref c, v0] σ rv σ' ∧ Y76 d Q 90 lv (rv.toList ++ st) σ' := yX_at (.invokevirtual 225, 3, 83, 1, 164, 0, []) rfl
theorem g76_90 {x : Int32} : Y76 d Q 90 lv (.int x :: st) σ ↔ Y76 d Q 92 (zs1 10 (.int x) lv) st σ := yX_at (.istore 10, 2, 0, 0, 0, 0, []) rfl
theorem g76_92  : Y76 d Q 92 lv st σ ↔ zldI lv 8 (fun x => Y76 d Q 94 lv (.int x :: st) σ) := yX_at (.iload 8, 2, 0, 0, 0, 0, []) rfl
theorem g76_94  : Y76 d Q 94 lv st σ ↔ Y76 d Q 95 lv (.int 1 :: st) σ := yX_at (.iconst 1, 1, 0, 0, 0, 0, []) rfl
theorem g76_95  : Y76 d Q 95 lv st σ ↔ zldI lv 10 (fun x => Y76 d Q 97 lv (.int x :: st) σ) := yX_at (.iload 10, 2, 0, 0, 0, 0, []) rfl
theorem g76_97 {x y : Int32} : Y76 d Q 97 lv (.int y :: .int x :: st) σ ↔ Y76 d Q 98 lv (.int (x <<< (y &&& 31)) :: st) σ := yX_at (.ishl, 1, 0, 0, 0, 0, []) rfl
theorem g76_98 {x y : Int32} : Y76 d Q 98 lv (.int y :: .int x :: st) σ ↔ Y76 d Q 99 lv (.int (x ||| y) :: st) σ := yX_at (.ior, 1, 0, 0, 0, 0, []) rfl
theorem g76_99 {x : Int32} : Y76 d Q 99 lv (.int x :: st) σ ↔ Y76 d Q 101 (zs1 8 (.int x) lv) st σ := yX_at (.istore 8, 2, 0, 0, 0, 0, []) rfl
theorem g76_101  : Y76 d Q 101 lv st σ ↔ zldI lv 5 (fun x => Y76 d Q 103 lv (.int x :: st) σ) := yX_at (.iload 5, 2, 0, 0, 0, 0, []) rfl
theorem g76_103  : Y76 d Q 103 lv st σ ↔ zldR lv 0 (fun x => Y76 d Q 104 lv (.ref x :: st) σ) := yX_at (.aload_n 0, 1, 0, 0, 0, 0, []) rfl
theorem g76_104  : Y76 d Q 104 lv st σ ↔ zldI lv 10 (fun x => Y76 d Q 106 lv (.int x :: st) σ) := yX_at (.iload 10, 2, 0, 0, 0, 0, []) rfl
theorem g76_106  : Y76 d Q 106 lv st σ ↔ zldI lv 4 (fun x => Y76 d Q 108 lv (.int x :: st) σ) := yX_at (.iload 4, 2, 0, 0, 0, 0, []) rfl
theorem g76_108 {v0 v1 : Value} {c : Nat} : Y76 d Q 108 lv (v1 :: v0 :: .ref c :: st) σ ↔ (zrcv 6 c ∧ zrm st) ∧ ∃ rv σ', yE d 84 [.ref c, v0, v1] σ rv σ' ∧ Y76 d Q 111 lv (rv.toList ++ st) σ' := yX_at (.invokevirtual 228, 3, 84, 2, 165, 0, []) rfl
theorem g76_111 {x y : Int32} : Y76 d Q 111 lv (.int y :: .int x :: st) σ ↔ zrm st ∧ Y76 d Q 114 lv (.int (if y < x then y else x) :: st) σ := yX_at (.invokestatic 231, 3, 901, 2, 166, 0, []) rfl
theorem g76_114 {x : Int32} : Y76 d Q 114 lv (.int x :: st) σ ↔ Y76 d Q 116 (zs1 11 (.int x) lv) st σ := yX_at (.istore 11, 2, 0, 0, 0, 0, []) rfl
theorem g76_116  : Y76 d Q 116 lv st σ ↔ zldI lv 11 (fun x => Y76 d Q 118 lv (.int x :: st) σ) := yX_at (.iload 11, 2, 0, 0, 0, 0, []) rfl
theorem g76_118 {x : Int32} : Y76 d Q 118 lv (.int x :: st) σ ↔ (x ≤ 0 → Y76 d Q 155 lv st σ) ∧ (¬ x ≤ 0 → Y76 d Q 121 lv st σ) := yX_at (.ifCond .le 37, 3, 155, 0, 0, 0, []) rfl
theorem g76_121  : Y76 d Q 121 lv st σ ↔ zldI lv 7 (fun x => Y76 d Q 123 lv (.int x :: st) σ) := yX_at (.iload 7, 2, 0, 0, 0, 0, []) rfl
theorem g76_123  : Y76 d Q 123 lv st σ ↔ Y76 d Q 124 lv (.int 1 :: st) σ := yX_at (.iconst 1, 1, 0, 0, 0, 0, []) rfl
theorem g76_124  : Y76 d Q 124 lv st σ ↔ zldI lv 10 (fun x => Y76 d Q 126 lv (.int x :: st) σ) := yX_at (.iload 10, 2, 0, 0, 0, 0, []) rfl
theorem g76_126 {x y : Int32} : Y76 d Q 126 lv (.int y :: .int x :: st) σ ↔ Y76 d Q 127 lv (.int (x <<< (y &&& 31)) :: st) σ := yX_at (.ishl, 1, 0, 0, 0, 0, []) rfl
theorem g76_127 {x y : Int32} : Y76 d Q 127 lv (.int y :: .int x :: st) σ ↔ Y76 d Q 128 lv (.int (x ||| y) :: st) σ := yX_at (.ior, 1, 0, 0, 0, 0, []) rfl
theorem g76_128 {x : Int32} : Y76 d Q 128 lv (.int x :: st) σ ↔ Y76 d Q 130 (zs1 7 (.int x) lv) st σ := yX_at (.istore 7, 2, 0, 0, 0, 0, []) rfl
theorem g76_130  : Y76 d Q 130 lv st σ ↔ zldI lv 6 (fun x => Y76 d Q 132 lv (.int x :: st) σ) := yX_at (.iload 6, 2, 0, 0, 0, 0, []) rfl
theorem g76_132  : Y76 d Q 132 lv st σ ↔ zldI lv 11 (fun x => Y76 d Q 134 lv (.int x :: st) σ) := yX_at (.iload 11, 2, 0, 0, 0, 0, []) rfl
theorem g76_134  : Y76 d Q 134 lv st σ ↔ zldR lv 0 (fun x => Y76 d Q 135 lv (.ref x :: st) σ) := yX_at (.aload_n 0, 1, 0, 0, 0, 0, []) rfl
theorem g76_135 {c : Nat} : Y76 d Q 135 lv (.ref c :: st) σ ↔ zK c = 6 ∧ Y76 d Q 138 lv (zfv σ c 1 :: st) σ := yX_at (.getfield 19, 3, 6, 1, 112, 0, []) rfl
theorem g76_138 {c : Nat} : Y76 d Q 138 lv (.ref c :: st) σ ↔ zK c = 5 ∧ Y76 d Q 141 lv (zfv σ c 3 :: st) σ := yX_at (.getfield 88, 3, 5, 3, 119, 0, []) rfl
theorem g76_141  : Y76 d Q 141 lv st σ ↔ zldI lv 10 (fun x => Y76 d Q 143 lv (.int x :: st) σ) := yX_at (.iload 10, 2, 0, 0, 0, 0, []) rfl
theorem g76_143 {j : Int32} {c : Nat} : Y76 d Q 143 lv (.int j :: .ref c :: st) σ ↔ (zK c = 100 ∧ vp_in j (zLn c)) ∧ Y76 d Q 144 lv (.int (σ.1 c j.toNatClampNeg) :: st) σ := yX_at (.iaload, 1, 0, 0, 0, 0, []) rfl
theorem g76_144 {x y : Int32} : Y76 d Q 144 lv (.int y :: .int x :: st) σ ↔ Y76 d Q 145 lv (.int (x * y) :: st) σ := yX_at (.imul, 1, 0, 0, 0, 0, []) rfl
theorem g76_145 {x y : Int32} : Y76 d Q 145 lv (.int y :: .int x :: st) σ ↔ Y76 d Q 146 lv (.int (x + y) :: st) σ := yX_at (.iadd, 1, 0, 0, 0, 0, []) rfl
theorem g76_146 {x : Int32} : Y76 d Q 146 lv (.int x :: st) σ ↔ Y76 d Q 148 (zs1 6 (.int x) lv) st σ := yX_at (.istore 6, 2, 0, 0, 0, 0, []) rfl
theorem g76_148  : Y76 d Q 148 lv st σ ↔ zldI lv 5 (fun x => Y76 d Q 150 lv (.int x :: st) σ) := yX_at (.iload 5, 2, 0, 0, 0, 0, []) rfl
theorem g76_150  : Y76 d Q 150 lv st σ ↔ zldI lv 11 (fun x => Y76 d Q 152 lv (.int x :: st) σ) := yX_at (.iload 11, 2, 0, 0, 0, 0, []) rfl
theorem g76_152 {x y : Int32} : Y76 d Q 152 lv (.int y :: .int x :: st) σ ↔ Y76 d Q 153 lv (.int (x - y) :: st) σ := yX_at (.isub, 1, 0, 0, 0, 0, []) rfl
theorem g76_153 {x : Int32} : Y76 d Q 153 lv (.int x :: st) σ ↔ Y76 d Q 155 (zs1 5 (.int x) lv) st σ := yX_at (.istore 5, 2, 0, 0, 0, 0, []) rfl
theorem g76_155  : Y76 d Q 155 lv st σ ↔ zldI lv 9 (fun x => Y76 d Q 158 (zs1 9 (.int (x + 1)) lv) st σ) := yX_at (.iinc 9 1, 3, 0, 0, 0, 0, []) rfl
theorem g76_158  : Y76 d Q 158 lv st σ ↔ Y76 d Q 67 lv st σ := yX_at (.goto (-91), 3, 67, 0, 0, 0, []) rfl
theorem g76_161  : Y76 d Q 161 lv st σ ↔ zldI lv 5 (fun x => Y76 d Q 163 lv (.int x :: st) σ) := yX_at (.iload 5, 2, 0, 0, 0, 0, []) rfl
theorem g76_163 {x : Int32} : Y76 d Q 163 lv (.int x :: st) σ ↔ (x ≤ 0 → Y76 d Q 169 lv st σ) ∧ (¬ x ≤ 0 → Y76 d Q 166 lv st σ) := yX_at (.ifCond .le 6, 3, 169, 0, 0, 0, []) rfl
theorem g76_166  : Y76 d Q 166 lv st σ ↔ Y76 d Q 168 lv (.int (-9) :: st) σ := by
  rw [show (-9 : Int32) = (Int8.ofInt (-9)).toInt32 from by decide]
  exact yX_at (.bipush (-9), 2, 0, 0, 0, 0, []) rfl
theorem g76_168 {x : Int32} : Y76 d Q 168 lv [.int x] σ ↔ Q (some (.int x)) σ := yX_at (.ireturn, 1, 0, 0, 0, 0, []) rfl
theorem g76_169  : Y76 d Q 169 lv st σ ↔ zldI lv 3 (fun x => Y76 d Q 170 lv (.int x :: st) σ) := yX_at (.iload_n 3, 1, 0, 0, 0, 0, []) rfl
theorem g76_170 {x : Int32} : Y76 d Q 170 lv (.int x :: st) σ ↔ (¬ x = 0 → Y76 d Q 178 lv st σ) ∧ (x = 0 → Y76 d Q 173 lv st σ) := yX_at (.ifCond .ne 8, 3, 178, 0, 0, 0, []) rfl
theorem g76_173  : Y76 d Q 173 lv st σ ↔ zldI lv 6 (fun x => Y76 d Q 175 lv (.int x :: st) σ) := yX_at (.iload 6, 2, 0, 0, 0, 0, []) rfl
theorem g76_175  : Y76 d Q 175 lv st σ ↔ Y76 d Q 180 lv st σ := yX_at (.goto 5, 3, 180, 0, 0, 0, []) rfl
theorem g76_178  : Y76 d Q 178 lv st σ ↔ zldI lv 7 (fun x => Y76 d Q 180 lv (.int x :: st) σ) := yX_at (.iload 7, 2, 0, 0, 0, 0, []) rfl
theorem g76_180 {x : Int32} : Y76 d Q 180 lv [.int x] σ ↔ Q (some (.int x)) σ := yX_at (.ireturn, 1, 0, 0, 0, 0, []) rfl
end G76
