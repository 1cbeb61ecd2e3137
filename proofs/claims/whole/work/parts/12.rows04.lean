def Y77 (d : Nat) (Q : Option Value → zSt → Prop) (pc : Nat) (lv : zLv) (st : List Value) (σ : zSt) : Prop := yX (yE d) ySn zt77 Q pc lv st σ
theorem C77 {d : Nat} {as : List Value} {σ : zSt} {P : Option Value → zSt → Prop} (hl : (lg_sl as).length ≤ 3) (h : Y77 d P 0 (lv_args 0 as) [] σ) : yC (d + 1) 77 as σ P := yC_of (by decide) hl h
section G77
variable {d : Nat} {Q : Option Value → zSt → Prop} {lv : zLv} {st : List Value} {σ : zSt}
theorem g77_0  : Y77 d Q 0 lv st σ ↔ zldR lv 0 (fun x => Y77 d Q 1 lv (.ref x :: st) σ) := yX_at (.aload_n 0, 1, 0, 0, 0, 0, []) rfl
theorem g77_1 {c : Nat} : Y77 d Q 1 lv (.ref c :: st) σ ↔ zK c = 6 ∧ Y77 d Q 4 lv (zfv σ c 1 :: st) σ := yX_at (.getfield 19, 3, 6, 1, 112, 0, []) rfl
theorem g77_4  : Y77 d Q 4 lv st σ ↔ zldI lv 2 (fun x => Y77 d Q 5 lv (.int x :: st) σ) := yX_at (.iload_n 2, 1, 0, 0, 0, 0, []) rfl
theorem g77_5 {v0 : Value} {c : Nat} : Y77 d Q 5 lv (v0 :: .ref c :: st) σ ↔ (zrcv 5 c ∧ zrm st) ∧ ∃ rv σ', yE d 50 [.ref c, v0] σ rv σ' ∧ Y77 d Q 8 lv (rv.toList ++ st) σ' := yX_at (.invokevirtual 77, 3, 50, 1, 116, 0, []) rfl
theorem g77_8 {x : Int32} : Y77 d Q 8 lv (.int x :: st) σ ↔ (¬ x = 0 → Y77 d Q 14 lv st σ) ∧ (x = 0 → Y77 d Q 11 lv st σ) := yX_at (.ifCond .ne 6, 3, 14, 0, 0, 0, []) rfl
theorem g77_11  : Y77 d Q 11 lv st σ ↔ Y77 d Q 13 lv (.int (-1000000) :: st) σ := by
  rw [show (-1000000 : Int32) = Int32.ofInt (-1000000) from by decide]
  exact yX_at (.ldc 236, 2, 0, 0, 167, (-1000000), []) rfl
theorem g77_13 {x : Int32} : Y77 d Q 13 lv [.int x] σ ↔ Q (some (.int x)) σ := yX_at (.ireturn, 1, 0, 0, 0, 0, []) rfl
theorem g77_14  : Y77 d Q 14 lv st σ ↔ zldI lv 1 (fun x => Y77 d Q 15 lv (.int x :: st) σ) := yX_at (.iload_n 1, 1, 0, 0, 0, 0, []) rfl
theorem g77_15 {x : Int32} : Y77 d Q 15 lv (.int x :: st) σ ↔ (x = 0 → Y77 d Q 52 lv st σ) ∧ (¬ x = 0 → ((x = 1 → Y77 d Q 58 lv st σ) ∧ (¬ x = 1 → ((x = 2 → Y77 d Q 64 lv st σ) ∧ (¬ x = 2 → ((x = 3 → Y77 d Q 70 lv st σ) ∧ (¬ x = 3 → ((x = 4 → Y77 d Q 76 lv st σ) ∧ (¬ x = 4 → ((x = 5 → Y77 d Q 82 lv st σ) ∧ (¬ x = 5 → (Y77 d Q 88 lv st σ)))))))))))) := yX_at (.tableswitch 73 0 5 #[37, 43, 49, 55, 61, 67], 37, 88, 0, 0, 0, [(0, 52), (1, 58), (2, 64), (3, 70), (4, 76), (5, 82)]) rfl
theorem g77_52  : Y77 d Q 52 lv st σ ↔ zldR lv 0 (fun x => Y77 d Q 53 lv (.ref x :: st) σ) := yX_at (.aload_n 0, 1, 0, 0, 0, 0, []) rfl
theorem g77_53  : Y77 d Q 53 lv st σ ↔ zldI lv 2 (fun x => Y77 d Q 54 lv (.int x :: st) σ) := yX_at (.iload_n 2, 1, 0, 0, 0, 0, []) rfl
theorem g77_54 {v0 : Value} {c : Nat} : Y77 d Q 54 lv (v0 :: .ref c :: st) σ ↔ (zrcv 6 c ∧ zrm st) ∧ ∃ rv σ', yE d 85 [.ref c, v0] σ rv σ' ∧ Y77 d Q 57 lv (rv.toList ++ st) σ' := yX_at (.invokevirtual 237, 3, 85, 1, 168, 0, []) rfl
theorem g77_57 {x : Int32} : Y77 d Q 57 lv [.int x] σ ↔ Q (some (.int x)) σ := yX_at (.ireturn, 1, 0, 0, 0, 0, []) rfl
theorem g77_58  : Y77 d Q 58 lv st σ ↔ zldR lv 0 (fun x => Y77 d Q 59 lv (.ref x :: st) σ) := yX_at (.aload_n 0, 1, 0, 0, 0, 0, []) rfl
theorem g77_59  : Y77 d Q 59 lv st σ ↔ zldI lv 2 (fun x => Y77 d Q 60 lv (.int x :: st) σ) := yX_at (.iload_n 2, 1, 0, 0, 0, 0, []) rfl
theorem g77_60 {v0 : Value} {c : Nat} : Y77 d Q 60 lv (v0 :: .ref c :: st) σ ↔ (zrcv 6 c ∧ zrm st) ∧ ∃ rv σ', yE d 86 [.ref c, v0] σ rv σ' ∧ Y77 d Q 63 lv (rv.toList ++ st) σ' := yX_at (.invokevirtual 240, 3, 86, 1, 169, 0, []) rfl
theorem g77_63 {x : Int32} : Y77 d Q 63 lv [.int x] σ ↔ Q (some (.int x)) σ := yX_at (.ireturn, 1, 0, 0, 0, 0, []) rfl
theorem g77_64  : Y77 d Q 64 lv st σ ↔ zldR lv 0 (fun x => Y77 d Q 65 lv (.ref x :: st) σ) := yX_at (.aload_n 0, 1, 0, 0, 0, 0, []) rfl
theorem g77_65  : Y77 d Q 65 lv st σ ↔ zldI lv 2 (fun x => Y77 d Q 66 lv (.int x :: st) σ) := yX_at (.iload_n 2, 1, 0, 0, 0, 0, []) rfl
theorem g77_66 {v0 : Value} {c : Nat} : Y77 d Q 66 lv (v0 :: .ref c :: st) σ ↔ (zrcv 6 c ∧ zrm st) ∧ ∃ rv σ', yE d 87 [.ref c, v0] σ rv σ' ∧ Y77 d Q 69 lv (rv.toList ++ st) σ' := yX_at (.invokevirtual 243, 3, 87, 1, 170, 0, []) rfl
theorem g77_69 {x : Int32} : Y77 d Q 69 lv [.int x] σ ↔ Q (some (.int x)) σ := yX_at (.ireturn, 1, 0, 0, 0, 0, []) rfl
theorem g77_70  : Y77 d Q 70 lv st σ ↔ zldR lv 0 (fun x => Y77 d Q 71 lv (.ref x :: st) σ) := yX_at (.aload_n 0, 1, 0, 0, 0, 0, []) rfl
theorem g77_71  : Y77 d Q 71 lv st σ ↔ zldI lv 2 (fun x => Y77 d Q 72 lv (.int x :: st) σ) := yX_at (.iload_n 2, 1, 0, 0, 0, 0, []) rfl
theorem g77_72 {v0 : Value} {c : Nat} : Y77 d Q 72 lv (v0 :: .ref c :: st) σ ↔ (zrcv 6 c ∧ zrm st) ∧ ∃ rv σ', yE d 88 [.ref c, v0] σ rv σ' ∧ Y77 d Q 75 lv (rv.toList ++ st) σ' := yX_at (.invokevirtual 246, 3, 88, 1, 171, 0, []) rfl
theorem g77_75 {x : Int32} : Y77 d Q 75 lv [.int x] σ ↔ Q (some (.int x)) σ := yX_at (.ireturn, 1, 0, 0, 0, 0, []) rfl
theorem g77_76  : Y77 d Q 76 lv st σ ↔ zldR lv 0 (fun x => Y77 d Q 77 lv (.ref x :: st) σ) := yX_at (.aload_n 0, 1, 0, 0, 0, 0, []) rfl
theorem g77_77  : Y77 d Q 77 lv st σ ↔ zldI lv 2 (fun x => Y77 d Q 78 lv (.int x :: st) σ) := yX_at (.iload_n 2, 1, 0, 0, 0, 0, []) rfl
theorem g77_78 {v0 : Value} {c : Nat} : Y77 d Q 78 lv (v0 :: .ref c :: st) σ ↔ (zrcv 6 c ∧ zrm st) ∧ ∃ rv σ', yE d 89 [.ref c, v0] σ rv σ' ∧ Y77 d Q 81 lv (rv.toList ++ st) σ' := yX_at (.invokevirtual 249, 3, 89, 1, 172, 0, []) rfl
theorem g77_81 {x : Int32} : Y77 d Q 81 lv [.int x] σ ↔ Q (some (.int x)) σ := yX_at (.ireturn, 1, 0, 0, 0, 0, []) rfl
theorem g77_82  : Y77 d Q 82 lv st σ ↔ zldR lv 0 (fun x => Y77 d Q 83 lv (.ref x :: st) σ) := yX_at (.aload_n 0, 1, 0, 0, 0, 0, []) rfl
theorem g77_83  : Y77 d Q 83 lv st σ ↔ zldI lv 2 (fun x => Y77 d Q 84 lv (.int x :: st) σ) := yX_at (.iload_n 2, 1, 0, 0, 0, 0, []) rfl
theorem g77_84 {v0 : Value} {c : Nat} : Y77 d Q 84 lv (v0 :: .ref c :: st) σ ↔ (zrcv 6 c ∧ zrm st) ∧ ∃ rv σ', yE d 90 [.ref c, v0] σ rv σ' ∧ Y77 d Q 87 lv (rv.toList ++ st) σ' := yX_at (.invokevirtual 252, 3, 90, 1, 173, 0, []) rfl
theorem g77_87 {x : Int32} : Y77 d Q 87 lv [.int x] σ ↔ Q (some (.int x)) σ := yX_at (.ireturn, 1, 0, 0, 0, 0, []) rfl
theorem g77_88  : Y77 d Q 88 lv st σ ↔ Y77 d Q 90 lv (.int (-1000000) :: st) σ := by
  rw [show (-1000000 : Int32) = Int32.ofInt (-1000000) from by decide]
  exact yX_at (.ldc 236, 2, 0, 0, 167, (-1000000), []) rfl
theorem g77_90 {x : Int32} : Y77 d Q 90 lv [.int x] σ ↔ Q (some (.int x)) σ := yX_at (.ireturn, 1, 0, 0, 0, 0, []) rfl
end G77
def Y78 (d : Nat) (Q : Option Value → zSt → Prop) (pc : Nat) (lv : zLv) (st : List Value) (σ : zSt) : Prop := yX (yE d) ySn zt78 Q pc lv st σ
theorem C78 {d : Nat} {as : List Value} {σ : zSt} {P : Option Value → zSt → Prop} (hl : (lg_sl as).length ≤ 2) (h : Y78 d P 0 (lv_args 0 as) [] σ) : yC (d + 1) 78 as σ P := yC_of (by decide) hl h
section G78
variable {d : Nat} {Q : Option Value → zSt → Prop} {lv : zLv} {st : List Value} {σ : zSt}
theorem g78_0  : Y78 d Q 0 lv st σ ↔ zldI lv 1 (fun x => Y78 d Q 1 lv (.int x :: st) σ) := yX_at (.iload_n 1, 1, 0, 0, 0, 0, []) rfl
theorem g78_1 {x : Int32} : Y78 d Q 1 lv (.int x :: st) σ ↔ (x < 0 → Y78 d Q 9 lv st σ) ∧ (¬ x < 0 → Y78 d Q 4 lv st σ) := yX_at (.ifCond .lt 8, 3, 9, 0, 0, 0, []) rfl
theorem g78_4  : Y78 d Q 4 lv st σ ↔ zldI lv 1 (fun x => Y78 d Q 5 lv (.int x :: st) σ) := yX_at (.iload_n 1, 1, 0, 0, 0, 0, []) rfl
theorem g78_5  : Y78 d Q 5 lv st σ ↔ Y78 d Q 6 lv (.int 2 :: st) σ := yX_at (.iconst 2, 1, 0, 0, 0, 0, []) rfl
theorem g78_6 {x y : Int32} : Y78 d Q 6 lv (.int y :: .int x :: st) σ ↔ (x < y → Y78 d Q 11 lv st σ) ∧ (¬ x < y → Y78 d Q 9 lv st σ) := yX_at (.if_icmp .lt 5, 3, 11, 0, 0, 0, []) rfl
theorem g78_9  : Y78 d Q 9 lv st σ ↔ Y78 d Q 10 lv (.int (-1) :: st) σ := by
  rw [show (-1 : Int32) = Int32.ofInt (-1) from by decide]
  exact yX_at (.iconst (-1), 1, 0, 0, 0, 0, []) rfl
theorem g78_10 {x : Int32} : Y78 d Q 10 lv [.int x] σ ↔ Q (some (.int x)) σ := yX_at (.ireturn, 1, 0, 0, 0, 0, []) rfl
theorem g78_11  : Y78 d Q 11 lv st σ ↔ zldR lv 0 (fun x => Y78 d Q 12 lv (.ref x :: st) σ) := yX_at (.aload_n 0, 1, 0, 0, 0, 0, []) rfl
theorem g78_12 {c : Nat} : Y78 d Q 12 lv (.ref c :: st) σ ↔ zK c = 6 ∧ Y78 d Q 15 lv (zfv σ c 4 :: st) σ := yX_at (.getfield 33, 3, 6, 4, 174, 0, []) rfl
theorem g78_15  : Y78 d Q 15 lv st σ ↔ zldI lv 1 (fun x => Y78 d Q 16 lv (.int x :: st) σ) := yX_at (.iload_n 1, 1, 0, 0, 0, 0, []) rfl
theorem g78_16 {j : Int32} {c : Nat} : Y78 d Q 16 lv (.int j :: .ref c :: st) σ ↔ ((zK c = 104 ∨ zK c = 105) ∧ vp_in j (zLn c)) ∧ Y78 d Q 17 lv (.ref (zR c j.toNatClampNeg) :: st) σ := yX_at (.aaload, 1, 0, 0, 0, 0, []) rfl
theorem g78_17  : Y78 d Q 17 lv st σ ↔ zldR lv 0 (fun x => Y78 d Q 18 lv (.ref x :: st) σ) := yX_at (.aload_n 0, 1, 0, 0, 0, 0, []) rfl
theorem g78_18 {c : Nat} : Y78 d Q 18 lv (.ref c :: st) σ ↔ zK c = 6 ∧ Y78 d Q 21 lv (zfv σ c 3 :: st) σ := yX_at (.getfield 29, 3, 6, 3, 113, 0, []) rfl
theorem g78_21 {v0 : Value} {c : Nat} : Y78 d Q 21 lv (v0 :: .ref c :: st) σ ↔ (zrcv 2 c ∧ zrm st) ∧ ∃ rv σ', yE d 20 [.ref c, v0] σ rv σ' ∧ Y78 d Q 24 lv (rv.toList ++ st) σ' := yX_at (.invokevirtual 255, 3, 20, 1, 175, 0, []) rfl
theorem g78_24  : Y78 d Q 24 lv st σ ↔ zldR lv 0 (fun x => Y78 d Q 25 lv (.ref x :: st) σ) := yX_at (.aload_n 0, 1, 0, 0, 0, 0, []) rfl
theorem g78_25 {c : Nat} : Y78 d Q 25 lv (.ref c :: st) σ ↔ zK c = 6 ∧ Y78 d Q 28 lv (zfv σ c 5 :: st) σ := yX_at (.getfield 37, 3, 6, 5, 115, 0, []) rfl
theorem g78_28  : Y78 d Q 28 lv st σ ↔ zldI lv 1 (fun x => Y78 d Q 29 lv (.int x :: st) σ) := yX_at (.iload_n 1, 1, 0, 0, 0, 0, []) rfl
theorem g78_29  : Y78 d Q 29 lv st σ ↔ Y78 d Q 30 lv (.int 1 :: st) σ := yX_at (.iconst 1, 1, 0, 0, 0, 0, []) rfl
theorem g78_30 {x j : Int32} {c : Nat} : Y78 d Q 30 lv (.int x :: .int j :: .ref c :: st) σ ↔ (zK c = 102 ∧ vp_in j (zLn c)) ∧ Y78 d Q 31 lv st (zwI σ c j.toNatClampNeg (vp_nar .boolean x)) := yX_at (.bastore, 1, 1, 0, 0, 0, []) rfl
theorem g78_31  : Y78 d Q 31 lv st σ ↔ zldR lv 0 (fun x => Y78 d Q 32 lv (.ref x :: st) σ) := yX_at (.aload_n 0, 1, 0, 0, 0, 0, []) rfl
theorem g78_32 {c : Nat} : Y78 d Q 32 lv (.ref c :: st) σ ↔ zK c = 6 ∧ Y78 d Q 35 lv (zfv σ c 3 :: st) σ := yX_at (.getfield 29, 3, 6, 3, 113, 0, []) rfl
theorem g78_35 {c : Nat} : Y78 d Q 35 lv (.ref c :: st) σ ↔ zK c = 2 ∧ Y78 d Q 38 lv (zfv σ c 0 :: st) σ := yX_at (.getfield 125, 3, 2, 0, 131, 0, []) rfl
theorem g78_38 {x : Int32} : Y78 d Q 38 lv [.int x] σ ↔ Q (some (.int x)) σ := yX_at (.ireturn, 1, 0, 0, 0, 0, []) rfl
end G78
def Y79 (d : Nat) (Q : Option Value → zSt → Prop) (pc : Nat) (lv : zLv) (st : List Value) (σ : zSt) : Prop := yX (yE d) ySn zt79 Q pc lv st σ
theorem C79 {d : Nat} {as : List Value} {σ : zSt} {P : Option Value → zSt → Prop} (hl : (lg_sl as).length ≤ 2) (h : Y79 d P 0 (lv_args 0 as) [] σ) : yC (d + 1) 79 as σ P := yC_of (by decide) hl h
section G79
variable {d : Nat} {Q : Option Value → zSt → Prop} {lv : zLv} {st : List Value} {σ : zSt}
theorem g79_0  : Y79 d Q 0 lv st σ ↔ zldI lv 1 (fun x => Y79 d Q 1 lv (.int x :: st) σ) := yX_at (.iload_n 1, 1, 0, 0, 0, 0, []) rfl
theorem g79_1 {x : Int32} : Y79 d Q 1 lv (.int x :: st) σ ↔ (x < 0 → Y79 d Q 9 lv st σ) ∧ (¬ x < 0 → Y79 d Q 4 lv st σ) := yX_at (.ifCond .lt 8, 3, 9, 0, 0, 0, []) rfl
theorem g79_4  : Y79 d Q 4 lv st σ ↔ zldI lv 1 (fun x => Y79 d Q 5 lv (.int x :: st) σ) := yX_at (.iload_n 1, 1, 0, 0, 0, 0, []) rfl
theorem g79_5  : Y79 d Q 5 lv st σ ↔ Y79 d Q 6 lv (.int 2 :: st) σ := yX_at (.iconst 2, 1, 0, 0, 0, 0, []) rfl
theorem g79_6 {x y : Int32} : Y79 d Q 6 lv (.int y :: .int x :: st) σ ↔ (x < y → Y79 d Q 11 lv st σ) ∧ (¬ x < y → Y79 d Q 9 lv st σ) := yX_at (.if_icmp .lt 5, 3, 11, 0, 0, 0, []) rfl
theorem g79_9  : Y79 d Q 9 lv st σ ↔ Y79 d Q 10 lv (.int (-1) :: st) σ := by
  rw [show (-1 : Int32) = Int32.ofInt (-1) from by decide]
  exact yX_at (.iconst (-1), 1, 0, 0, 0, 0, []) rfl
theorem g79_10 {x : Int32} : Y79 d Q 10 lv [.int x] σ ↔ Q (some (.int x)) σ := yX_at (.ireturn, 1, 0, 0, 0, 0, []) rfl
theorem g79_11  : Y79 d Q 11 lv st σ ↔ zldR lv 0 (fun x => Y79 d Q 12 lv (.ref x :: st) σ) := yX_at (.aload_n 0, 1, 0, 0, 0, 0, []) rfl
theorem g79_12 {c : Nat} : Y79 d Q 12 lv (.ref c :: st) σ ↔ zK c = 6 ∧ Y79 d Q 15 lv (zfv σ c 5 :: st) σ := yX_at (.getfield 37, 3, 6, 5, 115, 0, []) rfl
theorem g79_15  : Y79 d Q 15 lv st σ ↔ zldI lv 1 (fun x => Y79 d Q 16 lv (.int x :: st) σ) := yX_at (.iload_n 1, 1, 0, 0, 0, 0, []) rfl
theorem g79_16 {j : Int32} {c : Nat} : Y79 d Q 16 lv (.int j :: .ref c :: st) σ ↔ ((zK c = 101 ∨ zK c = 102) ∧ vp_in j (zLn c)) ∧ Y79 d Q 17 lv (.int (σ.1 c j.toNatClampNeg) :: st) σ := yX_at (.baload, 1, 0, 0, 0, 0, []) rfl
theorem g79_17 {x : Int32} : Y79 d Q 17 lv (.int x :: st) σ ↔ (¬ x = 0 → Y79 d Q 23 lv st σ) ∧ (x = 0 → Y79 d Q 20 lv st σ) := yX_at (.ifCond .ne 6, 3, 23, 0, 0, 0, []) rfl
theorem g79_20  : Y79 d Q 20 lv st σ ↔ Y79 d Q 22 lv (.int (-2) :: st) σ := by
  rw [show (-2 : Int32) = (Int8.ofInt (-2)).toInt32 from by decide]
  exact yX_at (.bipush (-2), 2, 0, 0, 0, 0, []) rfl
theorem g79_22 {x : Int32} : Y79 d Q 22 lv [.int x] σ ↔ Q (some (.int x)) σ := yX_at (.ireturn, 1, 0, 0, 0, 0, []) rfl
theorem g79_23  : Y79 d Q 23 lv st σ ↔ zldR lv 0 (fun x => Y79 d Q 24 lv (.ref x :: st) σ) := yX_at (.aload_n 0, 1, 0, 0, 0, 0, []) rfl
theorem g79_24 {c : Nat} : Y79 d Q 24 lv (.ref c :: st) σ ↔ zK c = 6 ∧ Y79 d Q 27 lv (zfv σ c 3 :: st) σ := yX_at (.getfield 29, 3, 6, 3, 113, 0, []) rfl
theorem g79_27  : Y79 d Q 27 lv st σ ↔ zldR lv 0 (fun x => Y79 d Q 28 lv (.ref x :: st) σ) := yX_at (.aload_n 0, 1, 0, 0, 0, 0, []) rfl
theorem g79_28 {c : Nat} : Y79 d Q 28 lv (.ref c :: st) σ ↔ zK c = 6 ∧ Y79 d Q 31 lv (zfv σ c 4 :: st) σ := yX_at (.getfield 33, 3, 6, 4, 174, 0, []) rfl
theorem g79_31  : Y79 d Q 31 lv st σ ↔ zldI lv 1 (fun x => Y79 d Q 32 lv (.int x :: st) σ) := yX_at (.iload_n 1, 1, 0, 0, 0, 0, []) rfl
theorem g79_32 {j : Int32} {c : Nat} : Y79 d Q 32 lv (.int j :: .ref c :: st) σ ↔ ((zK c = 104 ∨ zK c = 105) ∧ vp_in j (zLn c)) ∧ Y79 d Q 33 lv (.ref (zR c j.toNatClampNeg) :: st) σ := yX_at (.aaload, 1, 0, 0, 0, 0, []) rfl
theorem g79_33 {v0 : Value} {c : Nat} : Y79 d Q 33 lv (v0 :: .ref c :: st) σ ↔ (zrcv 2 c ∧ zrm st) ∧ ∃ rv σ', yE d 20 [.ref c, v0] σ rv σ' ∧ Y79 d Q 36 lv (rv.toList ++ st) σ' := yX_at (.invokevirtual 255, 3, 20, 1, 175, 0, []) rfl
theorem g79_36  : Y79 d Q 36 lv st σ ↔ zldR lv 0 (fun x => Y79 d Q 37 lv (.ref x :: st) σ) := yX_at (.aload_n 0, 1, 0, 0, 0, 0, []) rfl
theorem g79_37 {c : Nat} : Y79 d Q 37 lv (.ref c :: st) σ ↔ zK c = 6 ∧ Y79 d Q 40 lv (zfv σ c 3 :: st) σ := yX_at (.getfield 29, 3, 6, 3, 113, 0, []) rfl
theorem g79_40 {c : Nat} : Y79 d Q 40 lv (.ref c :: st) σ ↔ zK c = 2 ∧ Y79 d Q 43 lv (zfv σ c 0 :: st) σ := yX_at (.getfield 125, 3, 2, 0, 131, 0, []) rfl
theorem g79_43 {x : Int32} : Y79 d Q 43 lv [.int x] σ ↔ Q (some (.int x)) σ := yX_at (.ireturn, 1, 0, 0, 0, 0, []) rfl
end G79
def Y80 (d : Nat) (Q : Option Value → zSt → Prop) (pc : Nat) (lv : zLv) (st : List Value) (σ : zSt) : Prop := yX (yE d) ySn zt80 Q pc lv st σ
theorem C80 {d : Nat} {as : List Value} {σ : zSt} {P : Option Value → zSt → Prop} (hl : (lg_sl as).length ≤ 2) (h : Y80 d P 0 (lv_args 0 as) [] σ) : yC (d + 1) 80 as σ P := yC_of (by decide) hl h
section G80
variable {d : Nat} {Q : Option Value → zSt → Prop} {lv : zLv} {st : List Value} {σ : zSt}
theorem g80_0  : Y80 d Q 0 lv st σ ↔ zldI lv 1 (fun x => Y80 d Q 1 lv (.int x :: st) σ) := yX_at (.iload_n 1, 1, 0, 0, 0, 0, []) rfl
theorem g80_1 {x : Int32} : Y80 d Q 1 lv (.int x :: st) σ ↔ (x = 0 → Y80 d Q 36 lv st σ) ∧ (¬ x = 0 → ((x = 1 → Y80 d Q 44 lv st σ) ∧ (¬ x = 1 → ((x = 2 → Y80 d Q 52 lv st σ) ∧ (¬ x = 2 → ((x = 3 → Y80 d Q 60 lv st σ) ∧ (¬ x = 3 → ((x = 4 → Y80 d Q 68 lv st σ) ∧ (¬ x = 4 → (Y80 d Q 76 lv st σ)))))))))) := yX_at (.tableswitch 75 0 4 #[35, 43, 51, 59, 67], 35, 76, 0, 0, 0, [(0, 36), (1, 44), (2, 52), (3, 60), (4, 68)]) rfl
theorem g80_36  : Y80 d Q 36 lv st σ ↔ zldR lv 0 (fun x => Y80 d Q 37 lv (.ref x :: st) σ) := yX_at (.aload_n 0, 1, 0, 0, 0, 0, []) rfl
theorem g80_37 {c : Nat} : Y80 d Q 37 lv (.ref c :: st) σ ↔ zK c = 6 ∧ Y80 d Q 40 lv (zfv σ c 1 :: st) σ := yX_at (.getfield 19, 3, 6, 1, 112, 0, []) rfl
theorem g80_40 {c : Nat} : Y80 d Q 40 lv (.ref c :: st) σ ↔ zK c = 5 ∧ Y80 d Q 43 lv (zfv σ c 0 :: st) σ := yX_at (.getfield 222, 3, 5, 0, 163, 0, []) rfl
theorem g80_43 {x : Int32} : Y80 d Q 43 lv [.int x] σ ↔ Q (some (.int x)) σ := yX_at (.ireturn, 1, 0, 0, 0, 0, []) rfl
theorem g80_44  : Y80 d Q 44 lv st σ ↔ zldR lv 0 (fun x => Y80 d Q 45 lv (.ref x :: st) σ) := yX_at (.aload_n 0, 1, 0, 0, 0, 0, []) rfl
theorem g80_45 {c : Nat} : Y80 d Q 45 lv (.ref c :: st) σ ↔ zK c = 6 ∧ Y80 d Q 48 lv (zfv σ c 1 :: st) σ := yX_at (.getfield 19, 3, 6, 1, 112, 0, []) rfl
theorem g80_48 {c : Nat} : Y80 d Q 48 lv (.ref c :: st) σ ↔ zK c = 5 ∧ Y80 d Q 51 lv (zfv σ c 4 :: st) σ := yX_at (.getfield 207, 3, 5, 4, 159, 0, []) rfl
theorem g80_51 {x : Int32} : Y80 d Q 51 lv [.int x] σ ↔ Q (some (.int x)) σ := yX_at (.ireturn, 1, 0, 0, 0, 0, []) rfl
theorem g80_52  : Y80 d Q 52 lv st σ ↔ zldR lv 0 (fun x => Y80 d Q 53 lv (.ref x :: st) σ) := yX_at (.aload_n 0, 1, 0, 0, 0, 0, []) rfl
theorem g80_53 {c : Nat} : Y80 d Q 53 lv (.ref c :: st) σ ↔ zK c = 6 ∧ Y80 d Q 56 lv (zfv σ c 1 :: st) σ := yX_at (.getfield 19, 3, 6, 1, 112, 0, []) rfl
theorem g80_56 {c : Nat} : Y80 d Q 56 lv (.ref c :: st) σ ↔ zK c = 5 ∧ Y80 d Q 59 lv (zfv σ c 10 :: st) σ := yX_at (.getfield 259, 3, 5, 10, 176, 0, []) rfl
theorem g80_59 {x : Int32} : Y80 d Q 59 lv [.int x] σ ↔ Q (some (.int x)) σ := yX_at (.ireturn, 1, 0, 0, 0, 0, []) rfl
theorem g80_60  : Y80 d Q 60 lv st σ ↔ zldR lv 0 (fun x => Y80 d Q 61 lv (.ref x :: st) σ) := yX_at (.aload_n 0, 1, 0, 0, 0, 0, []) rfl
theorem g80_61 {c : Nat} : Y80 d Q 61 lv (.ref c :: st) σ ↔ zK c = 6 ∧ Y80 d Q 64 lv (zfv σ c 6 :: st) σ := yX_at (.getfield 44, 3, 6, 6, 146, 0, []) rfl
theorem g80_64 {c : Nat} : Y80 d Q 64 lv (.ref c :: st) σ ↔ (zrcv 0 c ∧ zrm st) ∧ ∃ rv σ', yE d 1 [.ref c] σ rv σ' ∧ Y80 d Q 67 lv (rv.toList ++ st) σ' := yX_at (.invokevirtual 172, 3, 1, 0, 147, 0, []) rfl
theorem g80_67 {x : Int32} : Y80 d Q 67 lv [.int x] σ ↔ Q (some (.int x)) σ := yX_at (.ireturn, 1, 0, 0, 0, 0, []) rfl
theorem g80_68  : Y80 d Q 68 lv st σ ↔ zldR lv 0 (fun x => Y80 d Q 69 lv (.ref x :: st) σ) := yX_at (.aload_n 0, 1, 0, 0, 0, 0, []) rfl
theorem g80_69 {c : Nat} : Y80 d Q 69 lv (.ref c :: st) σ ↔ zK c = 6 ∧ Y80 d Q 72 lv (zfv σ c 0 :: st) σ := yX_at (.getfield 10, 3, 6, 0, 107, 0, []) rfl
theorem g80_72 {c : Nat} : Y80 d Q 72 lv (.ref c :: st) σ ↔ zK c = 4 ∧ Y80 d Q 75 lv (zfv σ c 1 :: st) σ := yX_at (.getfield 62, 3, 4, 1, 108, 0, []) rfl
theorem g80_75 {x : Int32} : Y80 d Q 75 lv [.int x] σ ↔ Q (some (.int x)) σ := yX_at (.ireturn, 1, 0, 0, 0, 0, []) rfl
theorem g80_76  : Y80 d Q 76 lv st σ ↔ Y80 d Q 77 lv (.int (-1) :: st) σ := by
  rw [show (-1 : Int32) = Int32.ofInt (-1) from by decide]
  exact yX_at (.iconst (-1), 1, 0, 0, 0, 0, []) rfl
theorem g80_77 {x : Int32} : Y80 d Q 77 lv [.int x] σ ↔ Q (some (.int x)) σ := yX_at (.ireturn, 1, 0, 0, 0, 0, []) rfl
end G80
def Y81 (d : Nat) (Q : Option Value → zSt → Prop) (pc : Nat) (lv : zLv) (st : List Value) (σ : zSt) : Prop := yX (yE d) ySn zt81 Q pc lv st σ
theorem C81 {d : Nat} {as : List Value} {σ : zSt} {P : Option Value → zSt → Prop} (hl : (lg_sl as).length ≤ 1) (h : Y81 d P 0 (lv_args 0 as) [] σ) : yC (d + 1) 81 as σ P := yC_of (by decide) hl h
section G81
variable {d : Nat} {Q : Option Value → zSt → Prop} {lv : zLv} {st : List Value} {σ : zSt}
theorem g81_0  : Y81 d Q 0 lv st σ ↔ zldR lv 0 (fun x => Y81 d Q 1 lv (.ref x :: st) σ) := yX_at (.aload_n 0, 1, 0, 0, 0, 0, []) rfl
theorem g81_1 {c : Nat} : Y81 d Q 1 lv (.ref c :: st) σ ↔ zK c = 6 ∧ Y81 d Q 4 lv (zfv σ c 9 :: st) σ := yX_at (.getfield 262, 3, 6, 9, 177, 0, []) rfl
theorem g81_4 {x : Int64} : Y81 d Q 4 lv [.long x] σ ↔ Q (some (.long x)) σ := yX_at (.lreturn, 1, 0, 0, 0, 0, []) rfl
end G81
def Y82 (d : Nat) (Q : Option Value → zSt → Prop) (pc : Nat) (lv : zLv) (st : List Value) (σ : zSt) : Prop := yX (yE d) ySn zt82 Q pc lv st σ
theorem C82 {d : Nat} {as : List Value} {σ : zSt} {P : Option Value → zSt → Prop} (hl : (lg_sl as).length ≤ 2) (h : Y82 d P 0 (lv_args 0 as) [] σ) : yC (d + 1) 82 as σ P := yC_of (by decide) hl h
section G82
variable {d : Nat} {Q : Option Value → zSt → Prop} {lv : zLv} {st : List Value} {σ : zSt}
theorem g82_0  : Y82 d Q 0 lv st σ ↔ zldR lv 0 (fun x => Y82 d Q 1 lv (.ref x :: st) σ) := yX_at (.aload_n 0, 1, 0, 0, 0, 0, []) rfl
theorem g82_1 {c : Nat} : Y82 d Q 1 lv (.ref c :: st) σ ↔ zK c = 6 ∧ Y82 d Q 4 lv (zfv σ c 3 :: st) σ := yX_at (.getfield 29, 3, 6, 3, 113, 0, []) rfl
theorem g82_4 {c : Nat} : Y82 d Q 4 lv (.ref c :: st) σ ↔ zK c = 2 ∧ Y82 d Q 7 lv (zfv σ c 6 :: st) σ := yX_at (.getfield 91, 3, 2, 6, 120, 0, []) rfl
theorem g82_7  : Y82 d Q 7 lv st σ ↔ zldI lv 1 (fun x => Y82 d Q 8 lv (.int x :: st) σ) := yX_at (.iload_n 1, 1, 0, 0, 0, 0, []) rfl
theorem g82_8 {j : Int32} {c : Nat} : Y82 d Q 8 lv (.int j :: .ref c :: st) σ ↔ (zK c = 100 ∧ vp_in j (zLn c)) ∧ Y82 d Q 9 lv (.int (σ.1 c j.toNatClampNeg) :: st) σ := yX_at (.iaload, 1, 0, 0, 0, 0, []) rfl
theorem g82_9  : Y82 d Q 9 lv st σ ↔ zldR lv 0 (fun x => Y82 d Q 10 lv (.ref x :: st) σ) := yX_at (.aload_n 0, 1, 0, 0, 0, 0, []) rfl
theorem g82_10 {c : Nat} : Y82 d Q 10 lv (.ref c :: st) σ ↔ zK c = 6 ∧ Y82 d Q 13 lv (zfv σ c 1 :: st) σ := yX_at (.getfield 19, 3, 6, 1, 112, 0, []) rfl
theorem g82_13 {c : Nat} : Y82 d Q 13 lv (.ref c :: st) σ ↔ zK c = 5 ∧ Y82 d Q 16 lv (zfv σ c 1 :: st) σ := yX_at (.getfield 81, 3, 5, 1, 117, 0, []) rfl
theorem g82_16  : Y82 d Q 16 lv st σ ↔ zldI lv 1 (fun x => Y82 d Q 17 lv (.int x :: st) σ) := yX_at (.iload_n 1, 1, 0, 0, 0, 0, []) rfl
theorem g82_17 {j : Int32} {c : Nat} : Y82 d Q 17 lv (.int j :: .ref c :: st) σ ↔ (zK c = 100 ∧ vp_in j (zLn c)) ∧ Y82 d Q 18 lv (.int (σ.1 c j.toNatClampNeg) :: st) σ := yX_at (.iaload, 1, 0, 0, 0, 0, []) rfl
theorem g82_18 {x y : Int32} : Y82 d Q 18 lv (.int y :: .int x :: st) σ ↔ (y ≤ x → Y82 d Q 25 lv st σ) ∧ (¬ y ≤ x → Y82 d Q 21 lv st σ) := yX_at (.if_icmp .ge 7, 3, 25, 0, 0, 0, []) rfl
theorem g82_21  : Y82 d Q 21 lv st σ ↔ Y82 d Q 22 lv (.int 1 :: st) σ := yX_at (.iconst 1, 1, 0, 0, 0, 0, []) rfl
theorem g82_22  : Y82 d Q 22 lv st σ ↔ Y82 d Q 26 lv st σ := yX_at (.goto 4, 3, 26, 0, 0, 0, []) rfl
theorem g82_25  : Y82 d Q 25 lv st σ ↔ Y82 d Q 26 lv (.int 0 :: st) σ := yX_at (.iconst 0, 1, 0, 0, 0, 0, []) rfl
theorem g82_26 {x : Int32} : Y82 d Q 26 lv [.int x] σ ↔ (x = 0 ∨ x = 1) ∧ Q (some (.int x)) σ := yX_at (.ireturn, 1, 1, 0, 0, 0, []) rfl
end G82
def Y83 (d : Nat) (Q : Option Value → zSt → Prop) (pc : Nat) (lv : zLv) (st : List Value) (σ : zSt) : Prop := yX (yE d) ySn zt83 Q pc lv st σ
theorem C83 {d : Nat} {as : List Value} {σ : zSt} {P : Option Value → zSt → Prop} (hl : (lg_sl as).length ≤ 5) (h : Y83 d P 0 (lv_args 0 as) [] σ) : yC (d + 1) 83 as σ P := yC_of (by decide) hl h
section G83
variable {d : Nat} {Q : Option Value → zSt → Prop} {lv : zLv} {st : List Value} {σ : zSt}
theorem g83_0  : Y83 d Q 0 lv st σ ↔ Y83 d Q 1 lv (.int 0 :: st) σ := yX_at (.iconst 0, 1, 0, 0, 0, 0, []) rfl
theorem g83_1 {x : Int32} : Y83 d Q 1 lv (.int x :: st) σ ↔ Y83 d Q 2 (zs1 2 (.int x) lv) st σ := yX_at (.istore_n 2, 1, 0, 0, 0, 0, []) rfl
theorem g83_2  : Y83 d Q 2 lv st σ ↔ Y83 d Q 4 lv (.int 10 :: st) σ := yX_at (.bipush 10, 2, 0, 0, 0, 0, []) rfl
theorem g83_4 {x : Int32} : Y83 d Q 4 lv (.int x :: st) σ ↔ Y83 d Q 5 (zs1 3 (.int x) lv) st σ := yX_at (.istore_n 3, 1, 0, 0, 0, 0, []) rfl
theorem g83_5  : Y83 d Q 5 lv st σ ↔ Y83 d Q 6 lv (.int 0 :: st) σ := yX_at (.iconst 0, 1, 0, 0, 0, 0, []) rfl
theorem g83_6 {x : Int32} : Y83 d Q 6 lv (.int x :: st) σ ↔ Y83 d Q 8 (zs1 4 (.int x) lv) st σ := yX_at (.istore 4, 2, 0, 0, 0, 0, []) rfl
theorem g83_8  : Y83 d Q 8 lv st σ ↔ zldI lv 4 (fun x => Y83 d Q 10 lv (.int x :: st) σ) := yX_at (.iload 4, 2, 0, 0, 0, 0, []) rfl
theorem g83_10  : Y83 d Q 10 lv st σ ↔ zldR lv 0 (fun x => Y83 d Q 11 lv (.ref x :: st) σ) := yX_at (.aload_n 0, 1, 0, 0, 0, 0, []) rfl
theorem g83_11 {c : Nat} : Y83 d Q 11 lv (.ref c :: st) σ ↔ zK c = 6 ∧ Y83 d Q 14 lv (zfv σ c 1 :: st) σ := yX_at (.getfield 19, 3, 6, 1, 112, 0, []) rfl
theorem g83_14 {c : Nat} : Y83 d Q 14 lv (.ref c :: st) σ ↔ zK c = 5 ∧ Y83 d Q 17 lv (zfv σ c 0 :: st) σ := yX_at (.getfield 222, 3, 5, 0, 163, 0, []) rfl
theorem g83_17 {x y : Int32} : Y83 d Q 17 lv (.int y :: .int x :: st) σ ↔ (y ≤ x → Y83 d Q 63 lv st σ) ∧ (¬ y ≤ x → Y83 d Q 20 lv st σ) := yX_at (.if_icmp .ge 46, 3, 63, 0, 0, 0, []) rfl
theorem g83_20  : Y83 d Q 20 lv st σ ↔ zldI lv 1 (fun x => Y83 d Q 21 lv (.int x :: st) σ) := yX_at (.iload_n 1, 1, 0, 0, 0, 0, []) rfl
theorem g83_21  : Y83 d Q 21 lv st σ ↔ zldI lv 4 (fun x => Y83 d Q 23 lv (.int x :: st) σ) := yX_at (.iload 4, 2, 0, 0, 0, 0, []) rfl
theorem g83_23 {x y : Int32} : Y83 d Q 23 lv (.int y :: .int x :: st) σ ↔ Y83 d Q 24 lv (.int (x >>> (y &&& 31)) :: st) σ := yX_at (.ishr, 1, 0, 0, 0, 0, []) rfl
theorem g83_24  : Y83 d Q 24 lv st σ ↔ Y83 d Q 25 lv (.int 1 :: st) σ := yX_at (.iconst 1, 1, 0, 0, 0, 0, []) rfl
theorem g83_25 {x y : Int32} : Y83 d Q 25 lv (.int y :: .int x :: st) σ ↔ Y83 d Q 26 lv (.int (x &&& y) :: st) σ := yX_at (.iand, 1, 0, 0, 0, 0, []) rfl
theorem g83_26 {x : Int32} : Y83 d Q 26 lv (.int x :: st) σ ↔ (¬ x = 0 → Y83 d Q 57 lv st σ) ∧ (x = 0 → Y83 d Q 29 lv st σ) := yX_at (.ifCond .ne 31, 3, 57, 0, 0, 0, []) rfl
theorem g83_29  : Y83 d Q 29 lv st σ ↔ zldR lv 0 (fun x => Y83 d Q 30 lv (.ref x :: st) σ) := yX_at (.aload_n 0, 1, 0, 0, 0, 0, []) rfl
theorem g83_30 {c : Nat} : Y83 d Q 30 lv (.ref c :: st) σ ↔ zK c = 6 ∧ Y83 d Q 33 lv (zfv σ c 1 :: st) σ := yX_at (.getfield 19, 3, 6, 1, 112, 0, []) rfl
theorem g83_33 {c : Nat} : Y83 d Q 33 lv (.ref c :: st) σ ↔ zK c = 5 ∧ Y83 d Q 36 lv (zfv σ c 3 :: st) σ := yX_at (.getfield 88, 3, 5, 3, 119, 0, []) rfl
theorem g83_36  : Y83 d Q 36 lv st σ ↔ zldI lv 4 (fun x => Y83 d Q 38 lv (.int x :: st) σ) := yX_at (.iload 4, 2, 0, 0, 0, 0, []) rfl
theorem g83_38 {j : Int32} {c : Nat} : Y83 d Q 38 lv (.int j :: .ref c :: st) σ ↔ (zK c = 100 ∧ vp_in j (zLn c)) ∧ Y83 d Q 39 lv (.int (σ.1 c j.toNatClampNeg) :: st) σ := yX_at (.iaload, 1, 0, 0, 0, 0, []) rfl
theorem g83_39  : Y83 d Q 39 lv st σ ↔ zldI lv 3 (fun x => Y83 d Q 40 lv (.int x :: st) σ) := yX_at (.iload_n 3, 1, 0, 0, 0, 0, []) rfl
theorem g83_40 {x y : Int32} : Y83 d Q 40 lv (.int y :: .int x :: st) σ ↔ (y ≤ x → Y83 d Q 57 lv st σ) ∧ (¬ y ≤ x → Y83 d Q 43 lv st σ) := yX_at (.if_icmp .ge 17, 3, 57, 0, 0, 0, []) rfl
theorem g83_43  : Y83 d Q 43 lv st σ ↔ zldI lv 4 (fun x => Y83 d Q 45 lv (.int x :: st) σ) := yX_at (.iload 4, 2, 0, 0, 0, 0, []) rfl
theorem g83_45 {x : Int32} : Y83 d Q 45 lv (.int x :: st) σ ↔ Y83 d Q 46 (zs1 2 (.int x) lv) st σ := yX_at (.istore_n 2, 1, 0, 0, 0, 0, []) rfl
theorem g83_46  : Y83 d Q 46 lv st σ ↔ zldR lv 0 (fun x => Y83 d Q 47 lv (.ref x :: st) σ) := yX_at (.aload_n 0, 1, 0, 0, 0, 0, []) rfl
theorem g83_47 {c : Nat} : Y83 d Q 47 lv (.ref c :: st) σ ↔ zK c = 6 ∧ Y83 d Q 50 lv (zfv σ c 1 :: st) σ := yX_at (.getfield 19, 3, 6, 1, 112, 0, []) rfl
theorem g83_50 {c : Nat} : Y83 d Q 50 lv (.ref c :: st) σ ↔ zK c = 5 ∧ Y83 d Q 53 lv (zfv σ c 3 :: st) σ := yX_at (.getfield 88, 3, 5, 3, 119, 0, []) rfl
theorem g83_53  : Y83 d Q 53 lv st σ ↔ zldI lv 4 (fun x => Y83 d Q 55 lv (.int x :: st) σ) := yX_at (.iload 4, 2, 0, 0, 0, 0, []) rfl
theorem g83_55 {j : Int32} {c : Nat} : Y83 d Q 55 lv (.int j :: .ref c :: st) σ ↔ (zK c = 100 ∧ vp_in j (zLn c)) ∧ Y83 d Q 56 lv (.int (σ.1 c j.toNatClampNeg) :: st) σ := yX_at (.iaload, 1, 0, 0, 0, 0, []) rfl
theorem g83_56 {x : Int32} : Y83 d Q 56 lv (.int x :: st) σ ↔ Y83 d Q 57 (zs1 3 (.int x) lv) st σ := yX_at (.istore_n 3, 1, 0, 0, 0, 0, []) rfl
theorem g83_57  : Y83 d Q 57 lv st σ ↔ zldI lv 4 (fun x => Y83 d Q 60 (zs1 4 (.int (x + 1)) lv) st σ) := yX_at (.iinc 4 1, 3, 0, 0, 0, 0, []) rfl
theorem g83_60  : Y83 d Q 60 lv st σ ↔ Y83 d Q 8 lv st σ := yX_at (.goto (-52), 3, 8, 0, 0, 0, []) rfl
theorem g83_63  : Y83 d Q 63 lv st σ ↔ zldI lv 2 (fun x => Y83 d Q 64 lv (.int x :: st) σ) := yX_at (.iload_n 2, 1, 0, 0, 0, 0, []) rfl
theorem g83_64 {x : Int32} : Y83 d Q 64 lv [.int x] σ ↔ Q (some (.int x)) σ := yX_at (.ireturn, 1, 0, 0, 0, 0, []) rfl
end G83
def Y84 (d : Nat) (Q : Option Value → zSt → Prop) (pc : Nat) (lv : zLv) (st : List Value) (σ : zSt) : Prop := yX (yE d) ySn zt84 Q pc lv st σ
theorem C84 {d : Nat} {as : List Value} {σ : zSt} {P : Option Value → zSt → Prop} (hl : (lg_sl as).length ≤ 3) (h : Y84 d P 0 (lv_args 0 as) [] σ) : yC (d + 1) 84 as σ P := yC_of (by decide) hl h
section G84
variable {d : Nat} {Q : Option Value → zSt → Prop} {lv : zLv} {st : List Value} {σ : zSt}
theorem g84_0  : Y84 d Q 0 lv st σ ↔ zldR lv 0 (fun x => Y84 d Q 1 lv (.ref x :: st) σ) := yX_at (.aload_n 0, 1, 0, 0, 0, 0, []) rfl
theorem g84_1  : Y84 d Q 1 lv st σ ↔ zldI lv 1 (fun x => Y84 d Q 2 lv (.int x :: st) σ) := yX_at (.iload_n 1, 1, 0, 0, 0, 0, []) rfl
theorem g84_2 {v0 : Value} {c : Nat} : Y84 d Q 2 lv (v0 :: .ref c :: st) σ ↔ (zrcv 6 c ∧ zrm st) ∧ ∃ rv σ', yE d 82 [.ref c, v0] σ rv σ' ∧ Y84 d Q 5 lv (rv.toList ++ st) σ' := yX_at (.invokevirtual 128, 3, 82, 1, 132, 0, []) rfl
theorem g84_5 {x : Int32} : Y84 d Q 5 lv (.int x :: st) σ ↔ (¬ x = 0 → Y84 d Q 10 lv st σ) ∧ (x = 0 → Y84 d Q 8 lv st σ) := yX_at (.ifCond .ne 5, 3, 10, 0, 0, 0, []) rfl
theorem g84_8  : Y84 d Q 8 lv st σ ↔ Y84 d Q 9 lv (.int 0 :: st) σ := yX_at (.iconst 0, 1, 0, 0, 0, 0, []) rfl
theorem g84_9 {x : Int32} : Y84 d Q 9 lv [.int x] σ ↔ Q (some (.int x)) σ := yX_at (.ireturn, 1, 0, 0, 0, 0, []) rfl
theorem g84_10  : Y84 d Q 10 lv st σ ↔ Y84 d Q 11 lv (.int 0 :: st) σ := yX_at (.iconst 0, 1, 0, 0, 0, 0, []) rfl
theorem g84_11  : Y84 d Q 11 lv st σ ↔ zldR lv 0 (fun x => Y84 d Q 12 lv (.ref x :: st) σ) := yX_at (.aload_n 0, 1, 0, 0, 0, 0, []) rfl
theorem g84_12 {c : Nat} : Y84 d Q 12 lv (.ref c :: st) σ ↔ zK c = 6 ∧ Y84 d Q 15 lv (zfv σ c 1 :: st) σ := yX_at (.getfield 19, 3, 6, 1, 112, 0, []) rfl
theorem g84_15 {c : Nat} : Y84 d Q 15 lv (.ref c :: st) σ ↔ zK c = 5 ∧ Y84 d Q 18 lv (zfv σ c 2 :: st) σ := yX_at (.getfield 85, 3, 5, 2, 118, 0, []) rfl
theorem g84_18  : Y84 d Q 18 lv st σ ↔ zldI lv 1 (fun x => Y84 d Q 19 lv (.int x :: st) σ) := yX_at (.iload_n 1, 1, 0, 0, 0, 0, []) rfl
theorem g84_19 {j : Int32} {c : Nat} : Y84 d Q 19 lv (.int j :: .ref c :: st) σ ↔ (zK c = 100 ∧ vp_in j (zLn c)) ∧ Y84 d Q 20 lv (.int (σ.1 c j.toNatClampNeg) :: st) σ := yX_at (.iaload, 1, 0, 0, 0, 0, []) rfl
theorem g84_20  : Y84 d Q 20 lv st σ ↔ zldI lv 2 (fun x => Y84 d Q 21 lv (.int x :: st) σ) := yX_at (.iload_n 2, 1, 0, 0, 0, 0, []) rfl
theorem g84_21 {x y : Int32} : Y84 d Q 21 lv (.int y :: .int x :: st) σ ↔ Y84 d Q 22 lv (.int (x * y) :: st) σ := yX_at (.imul, 1, 0, 0, 0, 0, []) rfl
theorem g84_22  : Y84 d Q 22 lv st σ ↔ zldR lv 0 (fun x => Y84 d Q 23 lv (.ref x :: st) σ) := yX_at (.aload_n 0, 1, 0, 0, 0, 0, []) rfl
theorem g84_23 {c : Nat} : Y84 d Q 23 lv (.ref c :: st) σ ↔ zK c = 6 ∧ Y84 d Q 26 lv (zfv σ c 3 :: st) σ := yX_at (.getfield 29, 3, 6, 3, 113, 0, []) rfl
theorem g84_26  : Y84 d Q 26 lv st σ ↔ zldI lv 1 (fun x => Y84 d Q 27 lv (.int x :: st) σ) := yX_at (.iload_n 1, 1, 0, 0, 0, 0, []) rfl
theorem g84_27 {v0 : Value} {c : Nat} : Y84 d Q 27 lv (v0 :: .ref c :: st) σ ↔ (zrcv 2 c ∧ zrm st) ∧ ∃ rv σ', yE d 23 [.ref c, v0] σ rv σ' ∧ Y84 d Q 30 lv (rv.toList ++ st) σ' := yX_at (.invokevirtual 265, 3, 23, 1, 178, 0, []) rfl
theorem g84_30 {x y : Int32} : Y84 d Q 30 lv (.int y :: .int x :: st) σ ↔ Y84 d Q 31 lv (.int (x - y) :: st) σ := yX_at (.isub, 1, 0, 0, 0, 0, []) rfl
theorem g84_31 {x y : Int32} : Y84 d Q 31 lv (.int y :: .int x :: st) σ ↔ zrm st ∧ Y84 d Q 34 lv (.int (if x < y then y else x) :: st) σ := yX_at (.invokestatic 268, 3, 902, 2, 179, 0, []) rfl
theorem g84_34 {x : Int32} : Y84 d Q 34 lv [.int x] σ ↔ Q (some (.int x)) σ := yX_at (.ireturn, 1, 0, 0, 0, 0, []) rfl
end G84
def Y85 (d : Nat) (Q : Option Value → zSt → Prop) (pc : Nat) (lv : zLv) (st : List Value) (σ : zSt) : Prop := yX (yE d) ySn zt85 Q pc lv st σ
theorem C85 {d : Nat} {as : List Value} {σ : zSt} {P : Option Value → zSt → Prop} (hl : (lg_sl as).length ≤ 2) (h : Y85 d P 0 (lv_args 0 as) [] σ) : yC (d + 1) 85 as σ P := yC_of (by decide) hl h
section G85
variable {d : Nat} {Q : Option Value → zSt → Prop} {lv : zLv} {st : List Value} {σ : zSt}
theorem g85_0  : Y85 d Q 0 lv st σ ↔ zldR lv 0 (fun x => Y85 d Q 1 lv (.ref x :: st) σ) := yX_at (.aload_n 0, 1, 0, 0, 0, 0, []) rfl
theorem g85_1  : Y85 d Q 1 lv st σ ↔ zdup st (fun r => Y85 d Q 2 lv r σ) := yX_at (.dup, 1, 0, 0, 0, 0, []) rfl
theorem g85_2 {c : Nat} : Y85 d Q 2 lv (.ref c :: st) σ ↔ zK c = 6 ∧ Y85 d Q 5 lv (zfv σ c 9 :: st) σ := yX_at (.getfield 262, 3, 6, 9, 177, 0, []) rfl
theorem g85_5  : Y85 d Q 5 lv st σ ↔ Y85 d Q 6 lv (.long 1 :: st) σ := yX_at (.lconst 1, 1, 0, 0, 0, 0, []) rfl
theorem g85_6 {x y : Int64} : Y85 d Q 6 lv (.long y :: .long x :: st) σ ↔ Y85 d Q 7 lv (.long (x + y) :: st) σ := yX_at (.ladd, 1, 0, 0, 0, 0, []) rfl
theorem g85_7 {x : Int64} {c : Nat} : Y85 d Q 7 lv (.long x :: .ref c :: st) σ ↔ zK c = 6 ∧ Y85 d Q 10 lv st (zwJ σ c 9 x) := yX_at (.putfield 262, 3, 6, 9, 177, 0, []) rfl
theorem g85_10  : Y85 d Q 10 lv st σ ↔ zldR lv 0 (fun x => Y85 d Q 11 lv (.ref x :: st) σ) := yX_at (.aload_n 0, 1, 0, 0, 0, 0, []) rfl
theorem g85_11 {c : Nat} : Y85 d Q 11 lv (.ref c :: st) σ ↔ zK c = 6 ∧ Y85 d Q 14 lv (zfv σ c 1 :: st) σ := yX_at (.getfield 19, 3, 6, 1, 112, 0, []) rfl
theorem g85_14 {c : Nat} : Y85 d Q 14 lv (.ref c :: st) σ ↔ zK c = 5 ∧ Y85 d Q 17 lv (zfv σ c 1 :: st) σ := yX_at (.getfield 81, 3, 5, 1, 117, 0, []) rfl
theorem g85_17  : Y85 d Q 17 lv st σ ↔ zldI lv 1 (fun x => Y85 d Q 18 lv (.int x :: st) σ) := yX_at (.iload_n 1, 1, 0, 0, 0, 0, []) rfl
theorem g85_18 {j : Int32} {c : Nat} : Y85 d Q 18 lv (.int j :: .ref c :: st) σ ↔ (zK c = 100 ∧ vp_in j (zLn c)) ∧ Y85 d Q 19 lv (.int (σ.1 c j.toNatClampNeg) :: st) σ := yX_at (.iaload, 1, 0, 0, 0, 0, []) rfl
theorem g85_19  : Y85 d Q 19 lv st σ ↔ zldR lv 0 (fun x => Y85 d Q 20 lv (.ref x :: st) σ) := yX_at (.aload_n 0, 1, 0, 0, 0, 0, []) rfl
theorem g85_20 {c : Nat} : Y85 d Q 20 lv (.ref c :: st) σ ↔ zK c = 6 ∧ Y85 d Q 23 lv (zfv σ c 3 :: st) σ := yX_at (.getfield 29, 3, 6, 3, 113, 0, []) rfl
theorem g85_23 {c : Nat} : Y85 d Q 23 lv (.ref c :: st) σ ↔ zK c = 2 ∧ Y85 d Q 26 lv (zfv σ c 6 :: st) σ := yX_at (.getfield 91, 3, 2, 6, 120, 0, []) rfl
theorem g85_26  : Y85 d Q 26 lv st σ ↔ zldI lv 1 (fun x => Y85 d Q 27 lv (.int x :: st) σ) := yX_at (.iload_n 1, 1, 0, 0, 0, 0, []) rfl
theorem g85_27 {j : Int32} {c : Nat} : Y85 d Q 27 lv (.int j :: .ref c :: st) σ ↔ (zK c = 100 ∧ vp_in j (zLn c)) ∧ Y85 d Q 28 lv (.int (σ.1 c j.toNatClampNeg) :: st) σ := yX_at (.iaload, 1, 0, 0, 0, 0, []) rfl
theorem g85_28 {x y : Int32} : Y85 d Q 28 lv (.int y :: .int x :: st) σ ↔ Y85 d Q 29 lv (.int (x - y) :: st) σ := yX_at (.isub, 1, 0, 0, 0, 0, []) rfl
theorem g85_29 {x : Int32} : Y85 d Q 29 lv [.int x] σ ↔ Q (some (.int x)) σ := yX_at (.ireturn, 1, 0, 0, 0, 0, []) rfl
end G85
def Y86 (d : Nat) (Q : Option Value → zSt → Prop) (pc : Nat) (lv : zLv) (st : List Value) (σ : zSt) : Prop := yX (yE d) ySn zt86 Q pc lv st σ
theorem C86 {d : Nat} {as : List Value} {σ : zSt} {P : Option Value → zSt → Prop} (hl : (lg_sl as).length ≤ 2) (h : Y86 d P 0 (lv_args 0 as) [] σ) : yC (d + 1) 86 as σ P := yC_of (by decide) hl h
section G86
variable {d : Nat} {Q : Option Value → zSt → Prop} {lv : zLv} {st : List Value} {σ : zSt}
theorem g86_0  : Y86 d Q 0 lv st σ ↔ zldR lv 0 (fun x => Y86 d Q 1 lv (.ref x :: st) σ) := yX_at (.aload_n 0, 1, 0, 0, 0, 0, []) rfl
theorem g86_1  : Y86 d Q 1 lv st σ ↔ zdup st (fun r => Y86 d Q 2 lv r σ) := yX_at (.dup, 1, 0, 0, 0, 0, []) rfl
theorem g86_2 {c : Nat} : Y86 d Q 2 lv (.ref c :: st) σ ↔ zK c = 6 ∧ Y86 d Q 5 lv (zfv σ c 9 :: st) σ := yX_at (.getfield 262, 3, 6, 9, 177, 0, []) rfl
theorem g86_5  : Y86 d Q 5 lv st σ ↔ Y86 d Q 8 lv (.long 10 :: st) σ := yX_at (.ldc2_w 271, 3, 0, 0, 180, 10, []) rfl
theorem g86_8 {x y : Int64} : Y86 d Q 8 lv (.long y :: .long x :: st) σ ↔ Y86 d Q 9 lv (.long (x + y) :: st) σ := yX_at (.ladd, 1, 0, 0, 0, 0, []) rfl
theorem g86_9 {x : Int64} {c : Nat} : Y86 d Q 9 lv (.long x :: .ref c :: st) σ ↔ zK c = 6 ∧ Y86 d Q 12 lv st (zwJ σ c 9 x) := yX_at (.putfield 262, 3, 6, 9, 177, 0, []) rfl
theorem g86_12  : Y86 d Q 12 lv st σ ↔ zldR lv 0 (fun x => Y86 d Q 13 lv (.ref x :: st) σ) := yX_at (.aload_n 0, 1, 0, 0, 0, 0, []) rfl
theorem g86_13  : Y86 d Q 13 lv st σ ↔ zldI lv 1 (fun x => Y86 d Q 14 lv (.int x :: st) σ) := yX_at (.iload_n 1, 1, 0, 0, 0, 0, []) rfl
theorem g86_14 {v0 : Value} {c : Nat} : Y86 d Q 14 lv (v0 :: .ref c :: st) σ ↔ (zrcv 6 c ∧ zrm st) ∧ ∃ rv σ', yE d 85 [.ref c, v0] σ rv σ' ∧ Y86 d Q 17 lv (rv.toList ++ st) σ' := yX_at (.invokevirtual 237, 3, 85, 1, 168, 0, []) rfl
theorem g86_17  : Y86 d Q 17 lv st σ ↔ zldR lv 0 (fun x => Y86 d Q 18 lv (.ref x :: st) σ) := yX_at (.aload_n 0, 1, 0, 0, 0, 0, []) rfl
theorem g86_18 {c : Nat} : Y86 d Q 18 lv (.ref c :: st) σ ↔ zK c = 6 ∧ Y86 d Q 21 lv (zfv σ c 1 :: st) σ := yX_at (.getfield 19, 3, 6, 1, 112, 0, []) rfl
theorem g86_21 {c : Nat} : Y86 d Q 21 lv (.ref c :: st) σ ↔ zK c = 5 ∧ Y86 d Q 24 lv (zfv σ c 2 :: st) σ := yX_at (.getfield 85, 3, 5, 2, 118, 0, []) rfl
theorem g86_24  : Y86 d Q 24 lv st σ ↔ zldI lv 1 (fun x => Y86 d Q 25 lv (.int x :: st) σ) := yX_at (.iload_n 1, 1, 0, 0, 0, 0, []) rfl
theorem g86_25 {j : Int32} {c : Nat} : Y86 d Q 25 lv (.int j :: .ref c :: st) σ ↔ (zK c = 100 ∧ vp_in j (zLn c)) ∧ Y86 d Q 26 lv (.int (σ.1 c j.toNatClampNeg) :: st) σ := yX_at (.iaload, 1, 0, 0, 0, 0, []) rfl
theorem g86_26 {x y : Int32} : Y86 d Q 26 lv (.int y :: .int x :: st) σ ↔ Y86 d Q 27 lv (.int (x + y) :: st) σ := yX_at (.iadd, 1, 0, 0, 0, 0, []) rfl
theorem g86_27 {x : Int32} : Y86 d Q 27 lv [.int x] σ ↔ Q (some (.int x)) σ := yX_at (.ireturn, 1, 0, 0, 0, 0, []) rfl
end G86
def Y87 (d : Nat) (Q : Option Value → zSt → Prop) (pc : Nat) (lv : zLv) (st : List Value) (σ : zSt) : Prop := yX (yE d) ySn zt87 Q pc lv st σ
theorem C87 {d : Nat} {as : List Value} {σ : zSt} {P : Option Value → zSt → Prop} (hl : (lg_sl as).length ≤ 2) (h : Y87 d P 0 (lv_args 0 as) [] σ) : yC (d + 1) 87 as σ P := yC_of (by decide) hl h
section G87
variable {d : Nat} {Q : Option Value → zSt → Prop} {lv : zLv} {st : List Value} {σ : zSt}
theorem g87_0  : Y87 d Q 0 lv st σ ↔ zldR lv 0 (fun x => Y87 d Q 1 lv (.ref x :: st) σ) := yX_at (.aload_n 0, 1, 0, 0, 0, 0, []) rfl
theorem g87_1  : Y87 d Q 1 lv st σ ↔ zdup st (fun r => Y87 d Q 2 lv r σ) := yX_at (.dup, 1, 0, 0, 0, 0, []) rfl
theorem g87_2 {c : Nat} : Y87 d Q 2 lv (.ref c :: st) σ ↔ zK c = 6 ∧ Y87 d Q 5 lv (zfv σ c 9 :: st) σ := yX_at (.getfield 262, 3, 6, 9, 177, 0, []) rfl
theorem g87_5  : Y87 d Q 5 lv st σ ↔ Y87 d Q 8 lv (.long 100 :: st) σ := yX_at (.ldc2_w 273, 3, 0, 0, 181, 100, []) rfl
theorem g87_8 {x y : Int64} : Y87 d Q 8 lv (.long y :: .long x :: st) σ ↔ Y87 d Q 9 lv (.long (x + y) :: st) σ := yX_at (.ladd, 1, 0, 0, 0, 0, []) rfl
theorem g87_9 {x : Int64} {c : Nat} : Y87 d Q 9 lv (.long x :: .ref c :: st) σ ↔ zK c = 6 ∧ Y87 d Q 12 lv st (zwJ σ c 9 x) := yX_at (.putfield 262, 3, 6, 9, 177, 0, []) rfl
theorem g87_12  : Y87 d Q 12 lv st σ ↔ zldR lv 0 (fun x => Y87 d Q 13 lv (.ref x :: st) σ) := yX_at (.aload_n 0, 1, 0, 0, 0, 0, []) rfl
theorem g87_13  : Y87 d Q 13 lv st σ ↔ zldI lv 1 (fun x => Y87 d Q 14 lv (.int x :: st) σ) := yX_at (.iload_n 1, 1, 0, 0, 0, 0, []) rfl
theorem g87_14 {v0 : Value} {c : Nat} : Y87 d Q 14 lv (v0 :: .ref c :: st) σ ↔ (zrcv 6 c ∧ zrm st) ∧ ∃ rv σ', yE d 85 [.ref c, v0] σ rv σ' ∧ Y87 d Q 17 lv (rv.toList ++ st) σ' := yX_at (.invokevirtual 237, 3, 85, 1, 168, 0, []) rfl
theorem g87_17  : Y87 d Q 17 lv st σ ↔ zldR lv 0 (fun x => Y87 d Q 18 lv (.ref x :: st) σ) := yX_at (.aload_n 0, 1, 0, 0, 0, 0, []) rfl
theorem g87_18 {c : Nat} : Y87 d Q 18 lv (.ref c :: st) σ ↔ zK c = 6 ∧ Y87 d Q 21 lv (zfv σ c 3 :: st) σ := yX_at (.getfield 29, 3, 6, 3, 113, 0, []) rfl
theorem g87_21  : Y87 d Q 21 lv st σ ↔ zldI lv 1 (fun x => Y87 d Q 22 lv (.int x :: st) σ) := yX_at (.iload_n 1, 1, 0, 0, 0, 0, []) rfl
theorem g87_22 {v0 : Value} {c : Nat} : Y87 d Q 22 lv (v0 :: .ref c :: st) σ ↔ (zrcv 2 c ∧ zrm st) ∧ ∃ rv σ', yE d 23 [.ref c, v0] σ rv σ' ∧ Y87 d Q 25 lv (rv.toList ++ st) σ' := yX_at (.invokevirtual 265, 3, 23, 1, 178, 0, []) rfl
theorem g87_25 {x y : Int32} : Y87 d Q 25 lv (.int y :: .int x :: st) σ ↔ Y87 d Q 26 lv (.int (x - y) :: st) σ := yX_at (.isub, 1, 0, 0, 0, 0, []) rfl
theorem g87_26 {x : Int32} : Y87 d Q 26 lv [.int x] σ ↔ Q (some (.int x)) σ := yX_at (.ireturn, 1, 0, 0, 0, 0, []) rfl
end G87
def Y88 (d : Nat) (Q : Option Value → zSt → Prop) (pc : Nat) (lv : zLv) (st : List Value) (σ : zSt) : Prop := yX (yE d) ySn zt88 Q pc lv st σ
theorem C88 {d : Nat} {as : List Value} {σ : zSt} {P : Option Value → zSt → Prop} (hl : (lg_sl as).length ≤ 2) (h : Y88 d P 0 (lv_args 0 as) [] σ) : yC (d + 1) 88 as σ P := yC_of (by decide) hl h
section G88
variable {d : Nat} {Q : Option Value → zSt → Prop} {lv : zLv} {st : List Value} {σ : zSt}
theorem g88_0  : Y88 d Q 0 lv st σ ↔ zldR lv 0 (fun x => Y88 d Q 1 lv (.ref x :: st) σ) := yX_at (.aload_n 0, 1, 0, 0, 0, 0, []) rfl
theorem g88_1  : Y88 d Q 1 lv st σ ↔ zdup st (fun r => Y88 d Q 2 lv r σ) := yX_at (.dup, 1, 0, 0, 0, 0, []) rfl
theorem g88_2 {c : Nat} : Y88 d Q 2 lv (.ref c :: st) σ ↔ zK c = 6 ∧ Y88 d Q 5 lv (zfv σ c 9 :: st) σ := yX_at (.getfield 262, 3, 6, 9, 177, 0, []) rfl
theorem g88_5  : Y88 d Q 5 lv st σ ↔ Y88 d Q 8 lv (.long 1000 :: st) σ := yX_at (.ldc2_w 275, 3, 0, 0, 182, 1000, []) rfl
theorem g88_8 {x y : Int64} : Y88 d Q 8 lv (.long y :: .long x :: st) σ ↔ Y88 d Q 9 lv (.long (x + y) :: st) σ := yX_at (.ladd, 1, 0, 0, 0, 0, []) rfl
theorem g88_9 {x : Int64} {c : Nat} : Y88 d Q 9 lv (.long x :: .ref c :: st) σ ↔ zK c = 6 ∧ Y88 d Q 12 lv st (zwJ σ c 9 x) := yX_at (.putfield 262, 3, 6, 9, 177, 0, []) rfl
theorem g88_12  : Y88 d Q 12 lv st σ ↔ Y88 d Q 13 lv (.int 2 :: st) σ := yX_at (.iconst 2, 1, 0, 0, 0, 0, []) rfl
theorem g88_13  : Y88 d Q 13 lv st σ ↔ zldR lv 0 (fun x => Y88 d Q 14 lv (.ref x :: st) σ) := yX_at (.aload_n 0, 1, 0, 0, 0, 0, []) rfl
theorem g88_14  : Y88 d Q 14 lv st σ ↔ zldI lv 1 (fun x => Y88 d Q 15 lv (.int x :: st) σ) := yX_at (.iload_n 1, 1, 0, 0, 0, 0, []) rfl
theorem g88_15 {v0 : Value} {c : Nat} : Y88 d Q 15 lv (v0 :: .ref c :: st) σ ↔ (zrcv 6 c ∧ zrm st) ∧ ∃ rv σ', yE d 86 [.ref c, v0] σ rv σ' ∧ Y88 d Q 18 lv (rv.toList ++ st) σ' := yX_at (.invokevirtual 240, 3, 86, 1, 169, 0, []) rfl
theorem g88_18 {x y : Int32} : Y88 d Q 18 lv (.int y :: .int x :: st) σ ↔ Y88 d Q 19 lv (.int (x * y) :: st) σ := yX_at (.imul, 1, 0, 0, 0, 0, []) rfl
theorem g88_19 {x : Int32} : Y88 d Q 19 lv [.int x] σ ↔ Q (some (.int x)) σ := yX_at (.ireturn, 1, 0, 0, 0, 0, []) rfl
end G88
def Y89 (d : Nat) (Q : Option Value → zSt → Prop) (pc : Nat) (lv : zLv) (st : List Value) (σ : zSt) : Prop := yX (yE d) ySn zt89 Q pc lv st σ
theorem C89 {d : Nat} {as : List Value} {σ : zSt} {P : Option Value → zSt → Prop} (hl : (lg_sl as).length ≤ 2) (h : Y89 d P 0 (lv_args 0 as) [] σ) : yC (d + 1) 89 as σ P := yC_of (by decide) hl h
section G89
variable {d : Nat} {Q : Option Value → zSt → Prop} {lv : zLv} {st : List Value} {σ : zSt}
theorem g89_0  : Y89 d Q 0 lv st σ ↔ zldR lv 0 (fun x => Y89 d Q 1 lv (.ref x :: st) σ) := yX_at (.aload_n 0, 1, 0, 0, 0, 0, []) rfl
theorem g89_1  : Y89 d Q 1 lv st σ ↔ zdup st (fun r => Y89 d Q 2 lv r σ) := yX_at (.dup, 1, 0, 0, 0, 0, []) rfl
theorem g89_2 {c : Nat} : Y89 d Q 2 lv (.ref c :: st) σ ↔ zK c = 6 ∧ Y89 d Q 5 lv (zfv σ c 9 :: st) σ := yX_at (.getfield 262, 3, 6, 9, 177, 0, []) rfl
theorem g89_5  : Y89 d Q 5 lv st σ ↔ Y89 d Q 8 lv (.long 10000 :: st) σ := yX_at (.ldc2_w 277, 3, 0, 0, 183, 10000, []) rfl
theorem g89_8 {x y : Int64} : Y89 d Q 8 lv (.long y :: .long x :: st) σ ↔ Y89 d Q 9 lv (.long (x + y) :: st) σ := yX_at (.ladd, 1, 0, 0, 0, 0, []) rfl
theorem g89_9 {x : Int64} {c : Nat} : Y89 d Q 9 lv (.long x :: .ref c :: st) σ ↔ zK c = 6 ∧ Y89 d Q 12 lv st (zwJ σ c 9 x) := yX_at (.putfield 262, 3, 6, 9, 177, 0, []) rfl
theorem g89_12  : Y89 d Q 12 lv st σ ↔ zldR lv 0 (fun x => Y89 d Q 13 lv (.ref x :: st) σ) := yX_at (.aload_n 0, 1, 0, 0, 0, 0, []) rfl
theorem g89_13  : Y89 d Q 13 lv st σ ↔ zldI lv 1 (fun x => Y89 d Q 14 lv (.int x :: st) σ) := yX_at (.iload_n 1, 1, 0, 0, 0, 0, []) rfl
theorem g89_14 {v0 : Value} {c : Nat} : Y89 d Q 14 lv (v0 :: .ref c :: st) σ ↔ (zrcv 6 c ∧ zrm st) ∧ ∃ rv σ', yE d 87 [.ref c, v0] σ rv σ' ∧ Y89 d Q 17 lv (rv.toList ++ st) σ' := yX_at (.invokevirtual 243, 3, 87, 1, 170, 0, []) rfl
theorem g89_17  : Y89 d Q 17 lv st σ ↔ zldI lv 1 (fun x => Y89 d Q 18 lv (.int x :: st) σ) := yX_at (.iload_n 1, 1, 0, 0, 0, 0, []) rfl
theorem g89_18 {x y : Int32} : Y89 d Q 18 lv (.int y :: .int x :: st) σ ↔ Y89 d Q 19 lv (.int (x + y) :: st) σ := yX_at (.iadd, 1, 0, 0, 0, 0, []) rfl
theorem g89_19 {x : Int32} : Y89 d Q 19 lv [.int x] σ ↔ Q (some (.int x)) σ := yX_at (.ireturn, 1, 0, 0, 0, 0, []) rfl
end G89
def Y90 (d : Nat) (Q : Option Value → zSt → Prop) (pc : Nat) (lv : zLv) (st : List Value) (σ : zSt) : Prop := yX (yE d) ySn zt90 Q pc lv st σ
theorem C90 {d : Nat} {as : List Value} {σ : zSt} {P : Option Value → zSt → Prop} (hl : (lg_sl as).length ≤ 2) (h : Y90 d P 0 (lv_args 0 as) [] σ) : yC (d + 1) 90 as σ P := yC_of (by decide) hl h
section G90
variable {d : Nat} {Q : Option Value → zSt → Prop} {lv : zLv} {st : List Value} {σ : zSt}
theorem g90_0  : Y90 d Q 0 lv st σ ↔ zldR lv 0 (fun x => Y90 d Q 1 lv (.ref x :: st) σ) := yX_at (.aload_n 0, 1, 0, 0, 0, 0, []) rfl
theorem g90_1  : Y90 d Q 1 lv st σ ↔ zdup st (fun r => Y90 d Q 2 lv r σ) := yX_at (.dup, 1, 0, 0, 0, 0, []) rfl
theorem g90_2 {c : Nat} : Y90 d Q 2 lv (.ref c :: st) σ ↔ zK c = 6 ∧ Y90 d Q 5 lv (zfv σ c 9 :: st) σ := yX_at (.getfield 262, 3, 6, 9, 177, 0, []) rfl
theorem g90_5  : Y90 d Q 5 lv st σ ↔ Y90 d Q 8 lv (.long 100000 :: st) σ := yX_at (.ldc2_w 279, 3, 0, 0, 184, 100000, []) rfl
theorem g90_8 {x y : Int64} : Y90 d Q 8 lv (.long y :: .long x :: st) σ ↔ Y90 d Q 9 lv (.long (x + y) :: st) σ := yX_at (.ladd, 1, 0, 0, 0, 0, []) rfl
theorem g90_9 {x : Int64} {c : Nat} : Y90 d Q 9 lv (.long x :: .ref c :: st) σ ↔ zK c = 6 ∧ Y90 d Q 12 lv st (zwJ σ c 9 x) := yX_at (.putfield 262, 3, 6, 9, 177, 0, []) rfl
theorem g90_12  : Y90 d Q 12 lv st σ ↔ zldR lv 0 (fun x => Y90 d Q 13 lv (.ref x :: st) σ) := yX_at (.aload_n 0, 1, 0, 0, 0, 0, []) rfl
theorem g90_13  : Y90 d Q 13 lv st σ ↔ zldI lv 1 (fun x => Y90 d Q 14 lv (.int x :: st) σ) := yX_at (.iload_n 1, 1, 0, 0, 0, 0, []) rfl
theorem g90_14 {v0 : Value} {c : Nat} : Y90 d Q 14 lv (v0 :: .ref c :: st) σ ↔ (zrcv 6 c ∧ zrm st) ∧ ∃ rv σ', yE d 85 [.ref c, v0] σ rv σ' ∧ Y90 d Q 17 lv (rv.toList ++ st) σ' := yX_at (.invokevirtual 237, 3, 85, 1, 168, 0, []) rfl
theorem g90_17  : Y90 d Q 17 lv st σ ↔ zldR lv 0 (fun x => Y90 d Q 18 lv (.ref x :: st) σ) := yX_at (.aload_n 0, 1, 0, 0, 0, 0, []) rfl
theorem g90_18 {c : Nat} : Y90 d Q 18 lv (.ref c :: st) σ ↔ zK c = 6 ∧ Y90 d Q 21 lv (zfv σ c 3 :: st) σ := yX_at (.getfield 29, 3, 6, 3, 113, 0, []) rfl
theorem g90_21 {c : Nat} : Y90 d Q 21 lv (.ref c :: st) σ ↔ zK c = 2 ∧ Y90 d Q 24 lv (zfv σ c 0 :: st) σ := yX_at (.getfield 125, 3, 2, 0, 131, 0, []) rfl
theorem g90_24 {x y : Int32} : Y90 d Q 24 lv (.int y :: .int x :: st) σ ↔ Y90 d Q 25 lv (.int (x + y) :: st) σ := yX_at (.iadd, 1, 0, 0, 0, 0, []) rfl
theorem g90_25 {x : Int32} : Y90 d Q 25 lv [.int x] σ ↔ Q (some (.int x)) σ := yX_at (.ireturn, 1, 0, 0, 0, 0, []) rfl
end G90
def Y91 (d : Nat) (Q : Option Value → zSt → Prop) (pc : Nat) (lv : zLv) (st : List Value) (σ : zSt) : Prop := yX (yE d) ySn zt91 Q pc lv st σ
theorem C91 {d : Nat} {as : List Value} {σ : zSt} {P : Option Value → zSt → Prop} (hl : (lg_sl as).length ≤ 6) (h : Y91 d P 0 (lv_args 0 as) [] σ) : yC (d + 1) 91 as σ P := yC_of (by decide) hl h
section G91
variable {d : Nat} {Q : Option Value → zSt → Prop} {lv : zLv} {st : List Value} {σ : zSt}
theorem g91_0  : Y91 d Q 0 lv st σ ↔ zldJ lv 0 (fun x => Y91 d Q 1 lv (.long x :: st) σ) := yX_at (.lload_n 0, 1, 0, 0, 0, 0, []) rfl
theorem g91_1  : Y91 d Q 1 lv st σ ↔ zldJ lv 2 (fun x => Y91 d Q 2 lv (.long x :: st) σ) := yX_at (.lload_n 2, 1, 0, 0, 0, 0, []) rfl
theorem g91_2 {x y : Int64} : Y91 d Q 2 lv (.long y :: .long x :: st) σ ↔ Y91 d Q 3 lv (.int (lg_cmp x y) :: st) σ := yX_at (.lcmp, 1, 0, 0, 0, 0, []) rfl
theorem g91_3 {x : Int32} : Y91 d Q 3 lv (.int x :: st) σ ↔ (x < 0 → Y91 d Q 17 lv st σ) ∧ (¬ x < 0 → Y91 d Q 6 lv st σ) := yX_at (.ifCond .lt 14, 3, 17, 0, 0, 0, []) rfl
theorem g91_6  : Y91 d Q 6 lv st σ ↔ zldJ lv 0 (fun x => Y91 d Q 7 lv (.long x :: st) σ) := yX_at (.lload_n 0, 1, 0, 0, 0, 0, []) rfl
theorem g91_7  : Y91 d Q 7 lv st σ ↔ zldJ lv 4 (fun x => Y91 d Q 9 lv (.long x :: st) σ) := yX_at (.lload 4, 2, 0, 0, 0, 0, []) rfl
theorem g91_9 {x y : Int64} : Y91 d Q 9 lv (.long y :: .long x :: st) σ ↔ Y91 d Q 10 lv (.int (lg_cmp x y) :: st) σ := yX_at (.lcmp, 1, 0, 0, 0, 0, []) rfl
theorem g91_10 {x : Int32} : Y91 d Q 10 lv (.int x :: st) σ ↔ (0 < x → Y91 d Q 17 lv st σ) ∧ (¬ 0 < x → Y91 d Q 13 lv st σ) := yX_at (.ifCond .gt 7, 3, 17, 0, 0, 0, []) rfl
theorem g91_13  : Y91 d Q 13 lv st σ ↔ Y91 d Q 14 lv (.int 1 :: st) σ := yX_at (.iconst 1, 1, 0, 0, 0, 0, []) rfl
theorem g91_14  : Y91 d Q 14 lv st σ ↔ Y91 d Q 18 lv st σ := yX_at (.goto 4, 3, 18, 0, 0, 0, []) rfl
theorem g91_17  : Y91 d Q 17 lv st σ ↔ Y91 d Q 18 lv (.int 0 :: st) σ := yX_at (.iconst 0, 1, 0, 0, 0, 0, []) rfl
theorem g91_18 {x : Int32} : Y91 d Q 18 lv [.int x] σ ↔ (x = 0 ∨ x = 1) ∧ Q (some (.int x)) σ := yX_at (.ireturn, 1, 1, 0, 0, 0, []) rfl
end G91
def Y92 (d : Nat) (Q : Option Value → zSt → Prop) (pc : Nat) (lv : zLv) (st : List Value) (σ : zSt) : Prop := yX (yE d) ySn zt92 Q pc lv st σ
theorem C92 {d : Nat} {as : List Value} {σ : zSt} {P : Option Value → zSt → Prop} (hl : (lg_sl as).length ≤ 2) (h : Y92 d P 0 (lv_args 0 as) [] σ) : yC (d + 1) 92 as σ P := yC_of (by decide) hl h
section G92
variable {d : Nat} {Q : Option Value → zSt → Prop} {lv : zLv} {st : List Value} {σ : zSt}
theorem g92_0  : Y92 d Q 0 lv st σ ↔ zldI lv 0 (fun x => Y92 d Q 1 lv (.int x :: st) σ) := yX_at (.iload_n 0, 1, 0, 0, 0, 0, []) rfl
theorem g92_1  : Y92 d Q 1 lv st σ ↔ zldI lv 1 (fun x => Y92 d Q 2 lv (.int x :: st) σ) := yX_at (.iload_n 1, 1, 0, 0, 0, 0, []) rfl
theorem g92_2 {x y : Int32} : Y92 d Q 2 lv (.int y :: .int x :: st) σ ↔ Y92 d Q 3 lv (.int (x >>> (y &&& 31)) :: st) σ := yX_at (.ishr, 1, 0, 0, 0, 0, []) rfl
theorem g92_3  : Y92 d Q 3 lv st σ ↔ Y92 d Q 4 lv (.int 1 :: st) σ := yX_at (.iconst 1, 1, 0, 0, 0, 0, []) rfl
theorem g92_4 {x y : Int32} : Y92 d Q 4 lv (.int y :: .int x :: st) σ ↔ Y92 d Q 5 lv (.int (x &&& y) :: st) σ := yX_at (.iand, 1, 0, 0, 0, 0, []) rfl
theorem g92_5  : Y92 d Q 5 lv st σ ↔ Y92 d Q 6 lv (.int 1 :: st) σ := yX_at (.iconst 1, 1, 0, 0, 0, 0, []) rfl
theorem g92_6 {x y : Int32} : Y92 d Q 6 lv (.int y :: .int x :: st) σ ↔ (¬ x = y → Y92 d Q 13 lv st σ) ∧ (x = y → Y92 d Q 9 lv st σ) := yX_at (.if_icmp .ne 7, 3, 13, 0, 0, 0, []) rfl
theorem g92_9  : Y92 d Q 9 lv st σ ↔ Y92 d Q 10 lv (.int 1 :: st) σ := yX_at (.iconst 1, 1, 0, 0, 0, 0, []) rfl
theorem g92_10  : Y92 d Q 10 lv st σ ↔ Y92 d Q 14 lv st σ := yX_at (.goto 4, 3, 14, 0, 0, 0, []) rfl
theorem g92_13  : Y92 d Q 13 lv st σ ↔ Y92 d Q 14 lv (.int 0 :: st) σ := yX_at (.iconst 0, 1, 0, 0, 0, 0, []) rfl
theorem g92_14 {x : Int32} : Y92 d Q 14 lv [.int x] σ ↔ (x = 0 ∨ x = 1) ∧ Q (some (.int x)) σ := yX_at (.ireturn, 1, 1, 0, 0, 0, []) rfl
end G92
def Y93 (d : Nat) (Q : Option Value → zSt → Prop) (pc : Nat) (lv : zLv) (st : List Value) (σ : zSt) : Prop := yX (yE d) ySn zt93 Q pc lv st σ
theorem C93 {d : Nat} {as : List Value} {σ : zSt} {P : Option Value → zSt → Prop} (hl : (lg_sl as).length ≤ 3) (h : Y93 d P 0 (lv_args 0 as) [] σ) : yC (d + 1) 93 as σ P := yC_of (by decide) hl h
section G93
variable {d : Nat} {Q : Option Value → zSt → Prop} {lv : zLv} {st : List Value} {σ : zSt}
theorem g93_0  : Y93 d Q 0 lv st σ ↔ Y93 d Q 1 lv (.int 0 :: st) σ := yX_at (.iconst 0, 1, 0, 0, 0, 0, []) rfl
theorem g93_1 {x : Int32} : Y93 d Q 1 lv (.int x :: st) σ ↔ Y93 d Q 2 (zs1 1 (.int x) lv) st σ := yX_at (.istore_n 1, 1, 0, 0, 0, 0, []) rfl
theorem g93_2  : Y93 d Q 2 lv st σ ↔ Y93 d Q 3 lv (.int 0 :: st) σ := yX_at (.iconst 0, 1, 0, 0, 0, 0, []) rfl
theorem g93_3 {x : Int32} : Y93 d Q 3 lv (.int x :: st) σ ↔ Y93 d Q 4 (zs1 2 (.int x) lv) st σ := yX_at (.istore_n 2, 1, 0, 0, 0, 0, []) rfl
theorem g93_4  : Y93 d Q 4 lv st σ ↔ zldI lv 2 (fun x => Y93 d Q 5 lv (.int x :: st) σ) := yX_at (.iload_n 2, 1, 0, 0, 0, 0, []) rfl
theorem g93_5  : Y93 d Q 5 lv st σ ↔ Y93 d Q 7 lv (.int 8 :: st) σ := yX_at (.bipush 8, 2, 0, 0, 0, 0, []) rfl
theorem g93_7 {x y : Int32} : Y93 d Q 7 lv (.int y :: .int x :: st) σ ↔ (y ≤ x → Y93 d Q 24 lv st σ) ∧ (¬ y ≤ x → Y93 d Q 10 lv st σ) := yX_at (.if_icmp .ge 17, 3, 24, 0, 0, 0, []) rfl
theorem g93_10  : Y93 d Q 10 lv st σ ↔ zldI lv 1 (fun x => Y93 d Q 11 lv (.int x :: st) σ) := yX_at (.iload_n 1, 1, 0, 0, 0, 0, []) rfl
theorem g93_11  : Y93 d Q 11 lv st σ ↔ zldI lv 0 (fun x => Y93 d Q 12 lv (.int x :: st) σ) := yX_at (.iload_n 0, 1, 0, 0, 0, 0, []) rfl
theorem g93_12  : Y93 d Q 12 lv st σ ↔ zldI lv 2 (fun x => Y93 d Q 13 lv (.int x :: st) σ) := yX_at (.iload_n 2, 1, 0, 0, 0, 0, []) rfl
theorem g93_13 {x y : Int32} : Y93 d Q 13 lv (.int y :: .int x :: st) σ ↔ Y93 d Q 14 lv (.int (x >>> (y &&& 31)) :: st) σ := yX_at (.ishr, 1, 0, 0, 0, 0, []) rfl
theorem g93_14  : Y93 d Q 14 lv st σ ↔ Y93 d Q 15 lv (.int 1 :: st) σ := yX_at (.iconst 1, 1, 0, 0, 0, 0, []) rfl
theorem g93_15 {x y : Int32} : Y93 d Q 15 lv (.int y :: .int x :: st) σ ↔ Y93 d Q 16 lv (.int (x &&& y) :: st) σ := yX_at (.iand, 1, 0, 0, 0, 0, []) rfl
theorem g93_16 {x y : Int32} : Y93 d Q 16 lv (.int y :: .int x :: st) σ ↔ Y93 d Q 17 lv (.int (x + y) :: st) σ := yX_at (.iadd, 1, 0, 0, 0, 0, []) rfl
theorem g93_17 {x : Int32} : Y93 d Q 17 lv (.int x :: st) σ ↔ Y93 d Q 18 (zs1 1 (.int x) lv) st σ := yX_at (.istore_n 1, 1, 0, 0, 0, 0, []) rfl
theorem g93_18  : Y93 d Q 18 lv st σ ↔ zldI lv 2 (fun x => Y93 d Q 21 (zs1 2 (.int (x + 1)) lv) st σ) := yX_at (.iinc 2 1, 3, 0, 0, 0, 0, []) rfl
theorem g93_21  : Y93 d Q 21 lv st σ ↔ Y93 d Q 4 lv st σ := yX_at (.goto (-17), 3, 4, 0, 0, 0, []) rfl
theorem g93_24  : Y93 d Q 24 lv st σ ↔ zldI lv 1 (fun x => Y93 d Q 25 lv (.int x :: st) σ) := yX_at (.iload_n 1, 1, 0, 0, 0, 0, []) rfl
theorem g93_25 {x : Int32} : Y93 d Q 25 lv [.int x] σ ↔ Q (some (.int x)) σ := yX_at (.ireturn, 1, 0, 0, 0, 0, []) rfl
end G93
def Y94 (d : Nat) (Q : Option Value → zSt → Prop) (pc : Nat) (lv : zLv) (st : List Value) (σ : zSt) : Prop := yX (yE d) ySn zt94 Q pc lv st σ
theorem C94 {d : Nat} {as : List Value} {σ : zSt} {P : Option Value → zSt → Prop} (hl : (lg_sl as).length ≤ 2) (h : Y94 d P 0 (lv_args 0 as) [] σ) : yC (d + 1) 94 as σ P := yC_of (by decide) hl h
section G94
variable {d : Nat} {Q : Option Value → zSt → Prop} {lv : zLv} {st : List Value} {σ : zSt}
theorem g94_0  : Y94 d Q 0 lv st σ ↔ zldI lv 0 (fun x => Y94 d Q 1 lv (.int x :: st) σ) := yX_at (.iload_n 0, 1, 0, 0, 0, 0, []) rfl
theorem g94_1  : Y94 d Q 1 lv st σ ↔ zldI lv 1 (fun x => Y94 d Q 2 lv (.int x :: st) σ) := yX_at (.iload_n 1, 1, 0, 0, 0, 0, []) rfl
theorem g94_2 {x y : Int32} : Y94 d Q 2 lv (.int y :: .int x :: st) σ ↔ (y ≤ x → Y94 d Q 9 lv st σ) ∧ (¬ y ≤ x → Y94 d Q 5 lv st σ) := yX_at (.if_icmp .ge 7, 3, 9, 0, 0, 0, []) rfl
theorem g94_5  : Y94 d Q 5 lv st σ ↔ zldI lv 0 (fun x => Y94 d Q 6 lv (.int x :: st) σ) := yX_at (.iload_n 0, 1, 0, 0, 0, 0, []) rfl
theorem g94_6  : Y94 d Q 6 lv st σ ↔ Y94 d Q 10 lv st σ := yX_at (.goto 4, 3, 10, 0, 0, 0, []) rfl
theorem g94_9  : Y94 d Q 9 lv st σ ↔ zldI lv 1 (fun x => Y94 d Q 10 lv (.int x :: st) σ) := yX_at (.iload_n 1, 1, 0, 0, 0, 0, []) rfl
theorem g94_10 {x : Int32} : Y94 d Q 10 lv [.int x] σ ↔ Q (some (.int x)) σ := yX_at (.ireturn, 1, 0, 0, 0, 0, []) rfl
end G94
def Y95 (d : Nat) (Q : Option Value → zSt → Prop) (pc : Nat) (lv : zLv) (st : List Value) (σ : zSt) : Prop := yX (yE d) ySn zt95 Q pc lv st σ
theorem C95 {d : Nat} {as : List Value} {σ : zSt} {P : Option Value → zSt → Prop} (hl : (lg_sl as).length ≤ 2) (h : Y95 d P 0 (lv_args 0 as) [] σ) : yC (d + 1) 95 as σ P := yC_of (by decide) hl h
section G95
variable {d : Nat} {Q : Option Value → zSt → Prop} {lv : zLv} {st : List Value} {σ : zSt}
theorem g95_0  : Y95 d Q 0 lv st σ ↔ zldI lv 1 (fun x => Y95 d Q 1 lv (.int x :: st) σ) := yX_at (.iload_n 1, 1, 0, 0, 0, 0, []) rfl
theorem g95_1 {x : Int32} : Y95 d Q 1 lv (.int x :: st) σ ↔ Y95 d Q 2 lv (.long x.toInt64 :: st) σ := yX_at (.i2l, 1, 0, 0, 0, 0, []) rfl
theorem g95_2  : Y95 d Q 2 lv st σ ↔ Y95 d Q 3 lv (.long 0 :: st) σ := yX_at (.lconst 0, 1, 0, 0, 0, 0, []) rfl
theorem g95_3  : Y95 d Q 3 lv st σ ↔ zldR lv 0 (fun x => Y95 d Q 4 lv (.ref x :: st) σ) := yX_at (.aload_n 0, 1, 0, 0, 0, 0, []) rfl
theorem g95_4 {c : Nat} : Y95 d Q 4 lv (.ref c :: st) σ ↔ zK c = 7 ∧ Y95 d Q 7 lv (zfv σ c 2 :: st) σ := yX_at (.getfield 63, 3, 7, 2, 185, 0, []) rfl
theorem g95_7  : Y95 d Q 7 lv st σ ↔ Y95 d Q 8 lv (.int 1 :: st) σ := yX_at (.iconst 1, 1, 0, 0, 0, 0, []) rfl
theorem g95_8 {x y : Int32} : Y95 d Q 8 lv (.int y :: .int x :: st) σ ↔ Y95 d Q 9 lv (.int (x - y) :: st) σ := yX_at (.isub, 1, 0, 0, 0, 0, []) rfl
theorem g95_9 {x : Int32} : Y95 d Q 9 lv (.int x :: st) σ ↔ Y95 d Q 10 lv (.long x.toInt64 :: st) σ := yX_at (.i2l, 1, 0, 0, 0, 0, []) rfl
theorem g95_10 {v0 v1 v2 : Value} : Y95 d Q 10 lv (v2 :: v1 :: v0 :: st) σ ↔ zrm st ∧ ∃ rv σ', yE d 91 [v0, v1, v2] σ rv σ' ∧ Y95 d Q 13 lv (rv.toList ++ st) σ' := yX_at (.invokestatic 67, 3, 91, 3, 186, 0, []) rfl
theorem g95_13 {x : Int32} : Y95 d Q 13 lv [.int x] σ ↔ (x = 0 ∨ x = 1) ∧ Q (some (.int x)) σ := yX_at (.ireturn, 1, 1, 0, 0, 0, []) rfl
end G95
def Y96 (d : Nat) (Q : Option Value → zSt → Prop) (pc : Nat) (lv : zLv) (st : List Value) (σ : zSt) : Prop := yX (yE d) ySn zt96 Q pc lv st σ
theorem C96 {d : Nat} {as : List Value} {σ : zSt} {P : Option Value → zSt → Prop} (hl : (lg_sl as).length ≤ 2) (h : Y96 d P 0 (lv_args 0 as) [] σ) : yC (d + 1) 96 as σ P := yC_of (by decide) hl h
section G96
variable {d : Nat} {Q : Option Value → zSt → Prop} {lv : zLv} {st : List Value} {σ : zSt}
theorem g96_0  : Y96 d Q 0 lv st σ ↔ zldI lv 1 (fun x => Y96 d Q 1 lv (.int x :: st) σ) := yX_at (.iload_n 1, 1, 0, 0, 0, 0, []) rfl
theorem g96_1 {x : Int32} : Y96 d Q 1 lv (.int x :: st) σ ↔ Y96 d Q 2 lv (.long x.toInt64 :: st) σ := yX_at (.i2l, 1, 0, 0, 0, 0, []) rfl
theorem g96_2  : Y96 d Q 2 lv st σ ↔ Y96 d Q 3 lv (.long 0 :: st) σ := yX_at (.lconst 0, 1, 0, 0, 0, 0, []) rfl
theorem g96_3  : Y96 d Q 3 lv st σ ↔ zldR lv 0 (fun x => Y96 d Q 4 lv (.ref x :: st) σ) := yX_at (.aload_n 0, 1, 0, 0, 0, 0, []) rfl
theorem g96_4 {c : Nat} : Y96 d Q 4 lv (.ref c :: st) σ ↔ zK c = 7 ∧ Y96 d Q 7 lv (zfv σ c 6 :: st) σ := yX_at (.getfield 71, 3, 7, 6, 187, 0, []) rfl
theorem g96_7  : Y96 d Q 7 lv st σ ↔ Y96 d Q 8 lv (.int 1 :: st) σ := yX_at (.iconst 1, 1, 0, 0, 0, 0, []) rfl
theorem g96_8 {x y : Int32} : Y96 d Q 8 lv (.int y :: .int x :: st) σ ↔ Y96 d Q 9 lv (.int (x - y) :: st) σ := yX_at (.isub, 1, 0, 0, 0, 0, []) rfl
theorem g96_9 {x : Int32} : Y96 d Q 9 lv (.int x :: st) σ ↔ Y96 d Q 10 lv (.long x.toInt64 :: st) σ := yX_at (.i2l, 1, 0, 0, 0, 0, []) rfl
theorem g96_10 {v0 v1 v2 : Value} : Y96 d Q 10 lv (v2 :: v1 :: v0 :: st) σ ↔ zrm st ∧ ∃ rv σ', yE d 91 [v0, v1, v2] σ rv σ' ∧ Y96 d Q 13 lv (rv.toList ++ st) σ' := yX_at (.invokestatic 67, 3, 91, 3, 186, 0, []) rfl
theorem g96_13 {x : Int32} : Y96 d Q 13 lv [.int x] σ ↔ (x = 0 ∨ x = 1) ∧ Q (some (.int x)) σ := yX_at (.ireturn, 1, 1, 0, 0, 0, []) rfl
end G96
def Y97 (d : Nat) (Q : Option Value → zSt → Prop) (pc : Nat) (lv : zLv) (st : List Value) (σ : zSt) : Prop := yX (yE d) ySn zt97 Q pc lv st σ
theorem C97 {d : Nat} {as : List Value} {σ : zSt} {P : Option Value → zSt → Prop} (hl : (lg_sl as).length ≤ 5) (h : Y97 d P 0 (lv_args 0 as) [] σ) : yC (d + 1) 97 as σ P := yC_of (by decide) hl h
section G97
variable {d : Nat} {Q : Option Value → zSt → Prop} {lv : zLv} {st : List Value} {σ : zSt}
theorem g97_0  : Y97 d Q 0 lv st σ ↔ zldI lv 3 (fun x => Y97 d Q 1 lv (.int x :: st) σ) := yX_at (.iload_n 3, 1, 0, 0, 0, 0, []) rfl
theorem g97_1 {x : Int32} : Y97 d Q 1 lv (.int x :: st) σ ↔ Y97 d Q 2 lv (.long x.toInt64 :: st) σ := yX_at (.i2l, 1, 0, 0, 0, 0, []) rfl
theorem g97_2  : Y97 d Q 2 lv st σ ↔ Y97 d Q 3 lv (.long 1 :: st) σ := yX_at (.lconst 1, 1, 0, 0, 0, 0, []) rfl
theorem g97_3  : Y97 d Q 3 lv st σ ↔ Y97 d Q 6 lv (.long 8 :: st) σ := yX_at (.ldc2_w 74, 3, 0, 0, 188, 8, []) rfl
theorem g97_6 {v0 v1 v2 : Value} : Y97 d Q 6 lv (v2 :: v1 :: v0 :: st) σ ↔ zrm st ∧ ∃ rv σ', yE d 91 [v0, v1, v2] σ rv σ' ∧ Y97 d Q 9 lv (rv.toList ++ st) σ' := yX_at (.invokestatic 67, 3, 91, 3, 186, 0, []) rfl
theorem g97_9 {x : Int32} : Y97 d Q 9 lv (.int x :: st) σ ↔ (¬ x = 0 → Y97 d Q 14 lv st σ) ∧ (x = 0 → Y97 d Q 12 lv st σ) := yX_at (.ifCond .ne 5, 3, 14, 0, 0, 0, []) rfl
theorem g97_12  : Y97 d Q 12 lv st σ ↔ Y97 d Q 13 lv (.int (-1) :: st) σ := by
  rw [show (-1 : Int32) = Int32.ofInt (-1) from by decide]
  exact yX_at (.iconst (-1), 1, 0, 0, 0, 0, []) rfl
theorem g97_13 {x : Int32} : Y97 d Q 13 lv [.int x] σ ↔ Q (some (.int x)) σ := yX_at (.ireturn, 1, 0, 0, 0, 0, []) rfl
theorem g97_14  : Y97 d Q 14 lv st σ ↔ zldR lv 0 (fun x => Y97 d Q 15 lv (.ref x :: st) σ) := yX_at (.aload_n 0, 1, 0, 0, 0, 0, []) rfl
theorem g97_15 {c : Nat} : Y97 d Q 15 lv (.ref c :: st) σ ↔ zK c = 7 ∧ Y97 d Q 18 lv (zfv σ c 15 :: st) σ := yX_at (.getfield 76, 3, 7, 15, 189, 0, []) rfl
theorem g97_18  : Y97 d Q 18 lv st σ ↔ zldI lv 3 (fun x => Y97 d Q 19 lv (.int x :: st) σ) := yX_at (.iload_n 3, 1, 0, 0, 0, 0, []) rfl
theorem g97_19 {x y : Int32} : Y97 d Q 19 lv (.int y :: .int x :: st) σ ↔ Y97 d Q 20 lv (.int (x + y) :: st) σ := yX_at (.iadd, 1, 0, 0, 0, 0, []) rfl
theorem g97_20  : Y97 d Q 20 lv st σ ↔ Y97 d Q 23 lv (.int 300 :: st) σ := yX_at (.sipush 300, 3, 0, 0, 0, 0, []) rfl
theorem g97_23 {x y : Int32} : Y97 d Q 23 lv (.int y :: .int x :: st) σ ↔ (x ≤ y → Y97 d Q 29 lv st σ) ∧ (¬ x ≤ y → Y97 d Q 26 lv st σ) := yX_at (.if_icmp .le 6, 3, 29, 0, 0, 0, []) rfl
theorem g97_26  : Y97 d Q 26 lv st σ ↔ Y97 d Q 28 lv (.int (-3) :: st) σ := by
  rw [show (-3 : Int32) = (Int8.ofInt (-3)).toInt32 from by decide]
  exact yX_at (.bipush (-3), 2, 0, 0, 0, 0, []) rfl
theorem g97_28 {x : Int32} : Y97 d Q 28 lv [.int x] σ ↔ Q (some (.int x)) σ := yX_at (.ireturn, 1, 0, 0, 0, 0, []) rfl
theorem g97_29  : Y97 d Q 29 lv st σ ↔ zldI lv 3 (fun x => Y97 d Q 30 lv (.int x :: st) σ) := yX_at (.iload_n 3, 1, 0, 0, 0, 0, []) rfl
theorem g97_30  : Y97 d Q 30 lv st σ ↔ Y97 d Q 31 lv (.int 1 :: st) σ := yX_at (.iconst 1, 1, 0, 0, 0, 0, []) rfl
theorem g97_31 {x y : Int32} : Y97 d Q 31 lv (.int y :: .int x :: st) σ ↔ Y97 d Q 32 lv (.int (x - y) :: st) σ := yX_at (.isub, 1, 0, 0, 0, 0, []) rfl
theorem g97_32 {x : Int32} : Y97 d Q 32 lv (.int x :: st) σ ↔ Y97 d Q 34 (zs1 4 (.int x) lv) st σ := yX_at (.istore 4, 2, 0, 0, 0, 0, []) rfl
theorem g97_34  : Y97 d Q 34 lv st σ ↔ zldI lv 4 (fun x => Y97 d Q 36 lv (.int x :: st) σ) := yX_at (.iload 4, 2, 0, 0, 0, 0, []) rfl
theorem g97_36 {x : Int32} : Y97 d Q 36 lv (.int x :: st) σ ↔ (x < 0 → Y97 d Q 76 lv st σ) ∧ (¬ x < 0 → Y97 d Q 39 lv st σ) := yX_at (.ifCond .lt 40, 3, 76, 0, 0, 0, []) rfl
theorem g97_39  : Y97 d Q 39 lv st σ ↔ zldR lv 0 (fun x => Y97 d Q 40 lv (.ref x :: st) σ) := yX_at (.aload_n 0, 1, 0, 0, 0, 0, []) rfl
theorem g97_40 {c : Nat} : Y97 d Q 40 lv (.ref c :: st) σ ↔ zK c = 7 ∧ Y97 d Q 43 lv (zfv σ c 14 :: st) σ := yX_at (.getfield 41, 3, 7, 14, 190, 0, []) rfl
theorem g97_43  : Y97 d Q 43 lv st σ ↔ zldR lv 0 (fun x => Y97 d Q 44 lv (.ref x :: st) σ) := yX_at (.aload_n 0, 1, 0, 0, 0, 0, []) rfl
theorem g97_44 {c : Nat} : Y97 d Q 44 lv (.ref c :: st) σ ↔ zK c = 7 ∧ Y97 d Q 47 lv (zfv σ c 15 :: st) σ := yX_at (.getfield 76, 3, 7, 15, 189, 0, []) rfl
theorem g97_47  : Y97 d Q 47 lv st σ ↔ zldJ lv 1 (fun x => Y97 d Q 48 lv (.long x :: st) σ) := yX_at (.lload_n 1, 1, 0, 0, 0, 0, []) rfl
theorem g97_48  : Y97 d Q 48 lv st σ ↔ Y97 d Q 50 lv (.int 8 :: st) σ := yX_at (.bipush 8, 2, 0, 0, 0, 0, []) rfl
theorem g97_50  : Y97 d Q 50 lv st σ ↔ zldI lv 4 (fun x => Y97 d Q 52 lv (.int x :: st) σ) := yX_at (.iload 4, 2, 0, 0, 0, 0, []) rfl
theorem g97_52 {x y : Int32} : Y97 d Q 52 lv (.int y :: .int x :: st) σ ↔ Y97 d Q 53 lv (.int (x * y) :: st) σ := yX_at (.imul, 1, 0, 0, 0, 0, []) rfl
theorem g97_53 {x : Int64} {y : Int32} : Y97 d Q 53 lv (.int y :: .long x :: st) σ ↔ Y97 d Q 54 lv (.long (x >>> (y.toInt64 &&& 63)) :: st) σ := yX_at (.lshr, 1, 0, 0, 0, 0, []) rfl
theorem g97_54  : Y97 d Q 54 lv st σ ↔ Y97 d Q 57 lv (.long 255 :: st) σ := yX_at (.ldc2_w 79, 3, 0, 0, 191, 255, []) rfl
theorem g97_57 {x y : Int64} : Y97 d Q 57 lv (.long y :: .long x :: st) σ ↔ Y97 d Q 58 lv (.long (x &&& y) :: st) σ := yX_at (.land, 1, 0, 0, 0, 0, []) rfl
theorem g97_58 {x : Int64} : Y97 d Q 58 lv (.long x :: st) σ ↔ Y97 d Q 59 lv (.int x.toInt32 :: st) σ := yX_at (.l2i, 1, 0, 0, 0, 0, []) rfl
theorem g97_59 {x j : Int32} {c : Nat} : Y97 d Q 59 lv (.int x :: .int j :: .ref c :: st) σ ↔ (zK c = 100 ∧ vp_in j (zLn c)) ∧ Y97 d Q 60 lv st (zwI σ c j.toNatClampNeg x) := yX_at (.iastore, 1, 0, 0, 0, 0, []) rfl
theorem g97_60  : Y97 d Q 60 lv st σ ↔ zldR lv 0 (fun x => Y97 d Q 61 lv (.ref x :: st) σ) := yX_at (.aload_n 0, 1, 0, 0, 0, 0, []) rfl
theorem g97_61  : Y97 d Q 61 lv st σ ↔ zdup st (fun r => Y97 d Q 62 lv r σ) := yX_at (.dup, 1, 0, 0, 0, 0, []) rfl
theorem g97_62 {c : Nat} : Y97 d Q 62 lv (.ref c :: st) σ ↔ zK c = 7 ∧ Y97 d Q 65 lv (zfv σ c 15 :: st) σ := yX_at (.getfield 76, 3, 7, 15, 189, 0, []) rfl
theorem g97_65  : Y97 d Q 65 lv st σ ↔ Y97 d Q 66 lv (.int 1 :: st) σ := yX_at (.iconst 1, 1, 0, 0, 0, 0, []) rfl
theorem g97_66 {x y : Int32} : Y97 d Q 66 lv (.int y :: .int x :: st) σ ↔ Y97 d Q 67 lv (.int (x + y) :: st) σ := yX_at (.iadd, 1, 0, 0, 0, 0, []) rfl
theorem g97_67 {x : Int32} {c : Nat} : Y97 d Q 67 lv (.int x :: .ref c :: st) σ ↔ zK c = 7 ∧ Y97 d Q 70 lv st (zwI σ c 15 x) := yX_at (.putfield 76, 3, 7, 15, 189, 0, []) rfl
theorem g97_70  : Y97 d Q 70 lv st σ ↔ zldI lv 4 (fun x => Y97 d Q 73 (zs1 4 (.int (x + (-1))) lv) st σ) := by
  rw [show (-1 : Int32) = Int32.ofInt (-1) from by decide]
  exact yX_at (.iinc 4 (-1), 3, 0, 0, 0, 0, []) rfl
theorem g97_73  : Y97 d Q 73 lv st σ ↔ Y97 d Q 34 lv st σ := yX_at (.goto (-39), 3, 34, 0, 0, 0, []) rfl
theorem g97_76  : Y97 d Q 76 lv st σ ↔ zldR lv 0 (fun x => Y97 d Q 77 lv (.ref x :: st) σ) := yX_at (.aload_n 0, 1, 0, 0, 0, 0, []) rfl
theorem g97_77 {c : Nat} : Y97 d Q 77 lv (.ref c :: st) σ ↔ zK c = 7 ∧ Y97 d Q 80 lv (zfv σ c 15 :: st) σ := yX_at (.getfield 76, 3, 7, 15, 189, 0, []) rfl
theorem g97_80 {x : Int32} : Y97 d Q 80 lv [.int x] σ ↔ Q (some (.int x)) σ := yX_at (.ireturn, 1, 0, 0, 0, 0, []) rfl
end G97
def Y98 (d : Nat) (Q : Option Value → zSt → Prop) (pc : Nat) (lv : zLv) (st : List Value) (σ : zSt) : Prop := yX (yE d) ySn zt98 Q pc lv st σ
theorem C98 {d : Nat} {as : List Value} {σ : zSt} {P : Option Value → zSt → Prop} (hl : (lg_sl as).length ≤ 2) (h : Y98 d P 0 (lv_args 0 as) [] σ) : yC (d + 1) 98 as σ P := yC_of (by decide) hl h
section G98
variable {d : Nat} {Q : Option Value → zSt → Prop} {lv : zLv} {st : List Value} {σ : zSt}
theorem g98_0  : Y98 d Q 0 lv st σ ↔ zldR lv 0 (fun x => Y98 d Q 1 lv (.ref x :: st) σ) := yX_at (.aload_n 0, 1, 0, 0, 0, 0, []) rfl
theorem g98_1 {c : Nat} : Y98 d Q 1 lv (.ref c :: st) σ ↔ zK c = 7 ∧ Y98 d Q 4 lv (zfv σ c 15 :: st) σ := yX_at (.getfield 76, 3, 7, 15, 189, 0, []) rfl
theorem g98_4 {x : Int32} : Y98 d Q 4 lv (.int x :: st) σ ↔ Y98 d Q 5 (zs1 1 (.int x) lv) st σ := yX_at (.istore_n 1, 1, 0, 0, 0, 0, []) rfl
theorem g98_5  : Y98 d Q 5 lv st σ ↔ zldR lv 0 (fun x => Y98 d Q 6 lv (.ref x :: st) σ) := yX_at (.aload_n 0, 1, 0, 0, 0, 0, []) rfl
theorem g98_6  : Y98 d Q 6 lv st σ ↔ Y98 d Q 7 lv (.int 0 :: st) σ := yX_at (.iconst 0, 1, 0, 0, 0, 0, []) rfl
theorem g98_7 {x : Int32} {c : Nat} : Y98 d Q 7 lv (.int x :: .ref c :: st) σ ↔ zK c = 7 ∧ Y98 d Q 10 lv st (zwI σ c 15 x) := yX_at (.putfield 76, 3, 7, 15, 189, 0, []) rfl
theorem g98_10  : Y98 d Q 10 lv st σ ↔ zldI lv 1 (fun x => Y98 d Q 11 lv (.int x :: st) σ) := yX_at (.iload_n 1, 1, 0, 0, 0, 0, []) rfl
theorem g98_11 {x : Int32} : Y98 d Q 11 lv [.int x] σ ↔ Q (some (.int x)) σ := yX_at (.ireturn, 1, 0, 0, 0, 0, []) rfl
end G98
def Y99 (d : Nat) (Q : Option Value → zSt → Prop) (pc : Nat) (lv : zLv) (st : List Value) (σ : zSt) : Prop := yX (yE d) ySn zt99 Q pc lv st σ
theorem C99 {d : Nat} {as : List Value} {σ : zSt} {P : Option Value → zSt → Prop} (hl : (lg_sl as).length ≤ 1) (h : Y99 d P 0 (lv_args 0 as) [] σ) : yC (d + 1) 99 as σ P := yC_of (by decide) hl h
section G99
variable {d : Nat} {Q : Option Value → zSt → Prop} {lv : zLv} {st : List Value} {σ : zSt}
theorem g99_0  : Y99 d Q 0 lv st σ ↔ zldR lv 0 (fun x => Y99 d Q 1 lv (.ref x :: st) σ) := yX_at (.aload_n 0, 1, 0, 0, 0, 0, []) rfl
theorem g99_1 {c : Nat} : Y99 d Q 1 lv (.ref c :: st) σ ↔ zK c = 7 ∧ Y99 d Q 4 lv (zfv σ c 17 :: st) σ := yX_at (.getfield 81, 3, 7, 17, 192, 0, []) rfl
theorem g99_4  : Y99 d Q 4 lv st σ ↔ zldR lv 0 (fun x => Y99 d Q 5 lv (.ref x :: st) σ) := yX_at (.aload_n 0, 1, 0, 0, 0, 0, []) rfl
theorem g99_5 {c : Nat} : Y99 d Q 5 lv (.ref c :: st) σ ↔ zK c = 7 ∧ Y99 d Q 8 lv (zfv σ c 15 :: st) σ := yX_at (.getfield 76, 3, 7, 15, 189, 0, []) rfl
theorem g99_8 {x y : Int32} : Y99 d Q 8 lv (.int y :: .int x :: st) σ ↔ (y ≤ x → Y99 d Q 38 lv st σ) ∧ (¬ y ≤ x → Y99 d Q 11 lv st σ) := yX_at (.if_icmp .ge 30, 3, 38, 0, 0, 0, []) rfl
theorem g99_11  : Y99 d Q 11 lv st σ ↔ zldR lv 0 (fun x => Y99 d Q 12 lv (.ref x :: st) σ) := yX_at (.aload_n 0, 1, 0, 0, 0, 0, []) rfl
theorem g99_12 {c : Nat} : Y99 d Q 12 lv (.ref c :: st) σ ↔ zK c = 7 ∧ Y99 d Q 15 lv (zfv σ c 14 :: st) σ := yX_at (.getfield 41, 3, 7, 14, 190, 0, []) rfl
theorem g99_15  : Y99 d Q 15 lv st σ ↔ zldR lv 0 (fun x => Y99 d Q 16 lv (.ref x :: st) σ) := yX_at (.aload_n 0, 1, 0, 0, 0, 0, []) rfl
theorem g99_16 {c : Nat} : Y99 d Q 16 lv (.ref c :: st) σ ↔ zK c = 7 ∧ Y99 d Q 19 lv (zfv σ c 17 :: st) σ := yX_at (.getfield 81, 3, 7, 17, 192, 0, []) rfl
theorem g99_19 {j : Int32} {c : Nat} : Y99 d Q 19 lv (.int j :: .ref c :: st) σ ↔ (zK c = 100 ∧ vp_in j (zLn c)) ∧ Y99 d Q 20 lv (.int (σ.1 c j.toNatClampNeg) :: st) σ := yX_at (.iaload, 1, 0, 0, 0, 0, []) rfl
theorem g99_20  : Y99 d Q 20 lv st σ ↔ Y99 d Q 22 lv (.int 32 :: st) σ := yX_at (.bipush 32, 2, 0, 0, 0, 0, []) rfl
theorem g99_22 {x y : Int32} : Y99 d Q 22 lv (.int y :: .int x :: st) σ ↔ (¬ x = y → Y99 d Q 38 lv st σ) ∧ (x = y → Y99 d Q 25 lv st σ) := yX_at (.if_icmp .ne 16, 3, 38, 0, 0, 0, []) rfl
theorem g99_25  : Y99 d Q 25 lv st σ ↔ zldR lv 0 (fun x => Y99 d Q 26 lv (.ref x :: st) σ) := yX_at (.aload_n 0, 1, 0, 0, 0, 0, []) rfl
theorem g99_26  : Y99 d Q 26 lv st σ ↔ zdup st (fun r => Y99 d Q 27 lv r σ) := yX_at (.dup, 1, 0, 0, 0, 0, []) rfl
theorem g99_27 {c : Nat} : Y99 d Q 27 lv (.ref c :: st) σ ↔ zK c = 7 ∧ Y99 d Q 30 lv (zfv σ c 17 :: st) σ := yX_at (.getfield 81, 3, 7, 17, 192, 0, []) rfl
theorem g99_30  : Y99 d Q 30 lv st σ ↔ Y99 d Q 31 lv (.int 1 :: st) σ := yX_at (.iconst 1, 1, 0, 0, 0, 0, []) rfl
theorem g99_31 {x y : Int32} : Y99 d Q 31 lv (.int y :: .int x :: st) σ ↔ Y99 d Q 32 lv (.int (x + y) :: st) σ := yX_at (.iadd, 1, 0, 0, 0, 0, []) rfl
theorem g99_32 {x : Int32} {c : Nat} : Y99 d Q 32 lv (.int x :: .ref c :: st) σ ↔ zK c = 7 ∧ Y99 d Q 35 lv st (zwI σ c 17 x) := yX_at (.putfield 81, 3, 7, 17, 192, 0, []) rfl
theorem g99_35  : Y99 d Q 35 lv st σ ↔ Y99 d Q 0 lv st σ := yX_at (.goto (-35), 3, 0, 0, 0, 0, []) rfl
theorem g99_38  : Y99 d Q 38 lv st σ ↔ zldR lv 0 (fun x => Y99 d Q 39 lv (.ref x :: st) σ) := yX_at (.aload_n 0, 1, 0, 0, 0, 0, []) rfl
theorem g99_39 {c : Nat} : Y99 d Q 39 lv (.ref c :: st) σ ↔ zK c = 7 ∧ Y99 d Q 42 lv (zfv σ c 17 :: st) σ := yX_at (.getfield 81, 3, 7, 17, 192, 0, []) rfl
theorem g99_42  : Y99 d Q 42 lv st σ ↔ zldR lv 0 (fun x => Y99 d Q 43 lv (.ref x :: st) σ) := yX_at (.aload_n 0, 1, 0, 0, 0, 0, []) rfl
theorem g99_43 {c : Nat} : Y99 d Q 43 lv (.ref c :: st) σ ↔ zK c = 7 ∧ Y99 d Q 46 lv (zfv σ c 15 :: st) σ := yX_at (.getfield 76, 3, 7, 15, 189, 0, []) rfl
theorem g99_46 {x y : Int32} : Y99 d Q 46 lv (.int y :: .int x :: st) σ ↔ (¬ x = y → Y99 d Q 53 lv st σ) ∧ (x = y → Y99 d Q 49 lv st σ) := yX_at (.if_icmp .ne 7, 3, 53, 0, 0, 0, []) rfl
theorem g99_49  : Y99 d Q 49 lv st σ ↔ Y99 d Q 50 lv (.int 1 :: st) σ := yX_at (.iconst 1, 1, 0, 0, 0, 0, []) rfl
theorem g99_50  : Y99 d Q 50 lv st σ ↔ Y99 d Q 54 lv st σ := yX_at (.goto 4, 3, 54, 0, 0, 0, []) rfl
theorem g99_53  : Y99 d Q 53 lv st σ ↔ Y99 d Q 54 lv (.int 0 :: st) σ := yX_at (.iconst 0, 1, 0, 0, 0, 0, []) rfl
theorem g99_54 {x : Int32} : Y99 d Q 54 lv [.int x] σ ↔ (x = 0 ∨ x = 1) ∧ Q (some (.int x)) σ := yX_at (.ireturn, 1, 1, 0, 0, 0, []) rfl
end G99
def Y100 (d : Nat) (Q : Option Value → zSt → Prop) (pc : Nat) (lv : zLv) (st : List Value) (σ : zSt) : Prop := yX (yE d) ySn zt100 Q pc lv st σ
theorem C100 {d : Nat} {as : List Value} {σ : zSt} {P : Option Value → zSt → Prop} (hl : (lg_sl as).length ≤ 7) (h : Y100 d P 0 (lv_args 0 as) [] σ) : yC (d + 1) 100 as σ P := yC_of (by decide) hl h
section G100
variable {d : Nat} {Q : Option Value → zSt → Prop} {lv : zLv} {st : List Value} {σ : zSt}
theorem g100_0  : Y100 d Q 0 lv st σ ↔ zldR lv 0 (fun x => Y100 d Q 1 lv (.ref x :: st) σ) := yX_at (.aload_n 0, 1, 0, 0, 0, 0, []) rfl
theorem g100_1 {c : Nat} : Y100 d Q 1 lv (.ref c :: st) σ ↔ zK c = 7 ∧ Y100 d Q 4 lv (zfv σ c 18 :: st) σ := yX_at (.getfield 84, 3, 7, 18, 193, 0, []) rfl
theorem g100_4 {x : Int32} : Y100 d Q 4 lv (.int x :: st) σ ↔ (0 ≤ x → Y100 d Q 22 lv st σ) ∧ (¬ 0 ≤ x → Y100 d Q 7 lv st σ) := yX_at (.ifCond .ge 18, 3, 22, 0, 0, 0, []) rfl
theorem g100_7  : Y100 d Q 7 lv st σ ↔ zldR lv 0 (fun x => Y100 d Q 8 lv (.ref x :: st) σ) := yX_at (.aload_n 0, 1, 0, 0, 0, 0, []) rfl
theorem g100_8 {c : Nat} : Y100 d Q 8 lv (.ref c :: st) σ ↔ (zrcv 7 c ∧ zrm st) ∧ ∃ rv σ', yE d 99 [.ref c] σ rv σ' ∧ Y100 d Q 11 lv (rv.toList ++ st) σ' := yX_at (.invokevirtual 87, 3, 99, 0, 194, 0, []) rfl
theorem g100_11 {x : Int32} : Y100 d Q 11 lv (.int x :: st) σ ↔ (x = 0 → Y100 d Q 22 lv st σ) ∧ (¬ x = 0 → Y100 d Q 14 lv st σ) := yX_at (.ifCond .eq 11, 3, 22, 0, 0, 0, []) rfl
theorem g100_14  : Y100 d Q 14 lv st σ ↔ zldR lv 0 (fun x => Y100 d Q 15 lv (.ref x :: st) σ) := yX_at (.aload_n 0, 1, 0, 0, 0, 0, []) rfl
theorem g100_15  : Y100 d Q 15 lv st σ ↔ zldR lv 0 (fun x => Y100 d Q 16 lv (.ref x :: st) σ) := yX_at (.aload_n 0, 1, 0, 0, 0, 0, []) rfl
theorem g100_16 {c : Nat} : Y100 d Q 16 lv (.ref c :: st) σ ↔ zK c = 7 ∧ Y100 d Q 19 lv (zfv σ c 15 :: st) σ := yX_at (.getfield 76, 3, 7, 15, 189, 0, []) rfl
theorem g100_19 {x : Int32} {c : Nat} : Y100 d Q 19 lv (.int x :: .ref c :: st) σ ↔ zK c = 7 ∧ Y100 d Q 22 lv st (zwI σ c 18 x) := yX_at (.putfield 84, 3, 7, 18, 193, 0, []) rfl
theorem g100_22  : Y100 d Q 22 lv st σ ↔ zldR lv 0 (fun x => Y100 d Q 23 lv (.ref x :: st) σ) := yX_at (.aload_n 0, 1, 0, 0, 0, 0, []) rfl
theorem g100_23 {c : Nat} : Y100 d Q 23 lv (.ref c :: st) σ ↔ zK c = 7 ∧ Y100 d Q 26 lv (zfv σ c 18 :: st) σ := yX_at (.getfield 84, 3, 7, 18, 193, 0, []) rfl
theorem g100_26 {x : Int32} : Y100 d Q 26 lv (.int x :: st) σ ↔ (x < 0 → Y100 d Q 31 lv st σ) ∧ (¬ x < 0 → Y100 d Q 29 lv st σ) := yX_at (.ifCond .lt 5, 3, 31, 0, 0, 0, []) rfl
theorem g100_29  : Y100 d Q 29 lv st σ ↔ Y100 d Q 30 lv (.int 0 :: st) σ := yX_at (.iconst 0, 1, 0, 0, 0, 0, []) rfl
theorem g100_30 {x : Int32} : Y100 d Q 30 lv [.int x] σ ↔ Q (some (.int x)) σ := yX_at (.ireturn, 1, 0, 0, 0, 0, []) rfl
theorem g100_31  : Y100 d Q 31 lv st σ ↔ zldR lv 0 (fun x => Y100 d Q 32 lv (.ref x :: st) σ) := yX_at (.aload_n 0, 1, 0, 0, 0, 0, []) rfl
theorem g100_32 {c : Nat} : Y100 d Q 32 lv (.ref c :: st) σ ↔ zK c = 7 ∧ Y100 d Q 35 lv (zfv σ c 17 :: st) σ := yX_at (.getfield 81, 3, 7, 17, 192, 0, []) rfl
theorem g100_35 {x : Int32} : Y100 d Q 35 lv (.int x :: st) σ ↔ Y100 d Q 37 (zs1 4 (.int x) lv) st σ := yX_at (.istore 4, 2, 0, 0, 0, 0, []) rfl
theorem g100_37  : Y100 d Q 37 lv st σ ↔ Y100 d Q 38 lv (.int 0 :: st) σ := yX_at (.iconst 0, 1, 0, 0, 0, 0, []) rfl
theorem g100_38 {x : Int32} : Y100 d Q 38 lv (.int x :: st) σ ↔ Y100 d Q 40 (zs1 5 (.int x) lv) st σ := yX_at (.istore 5, 2, 0, 0, 0, 0, []) rfl
theorem g100_40  : Y100 d Q 40 lv st σ ↔ zldR lv 0 (fun x => Y100 d Q 41 lv (.ref x :: st) σ) := yX_at (.aload_n 0, 1, 0, 0, 0, 0, []) rfl
theorem g100_41 {c : Nat} : Y100 d Q 41 lv (.ref c :: st) σ ↔ zK c = 7 ∧ Y100 d Q 44 lv (zfv σ c 17 :: st) σ := yX_at (.getfield 81, 3, 7, 17, 192, 0, []) rfl
theorem g100_44  : Y100 d Q 44 lv st σ ↔ zldR lv 0 (fun x => Y100 d Q 45 lv (.ref x :: st) σ) := yX_at (.aload_n 0, 1, 0, 0, 0, 0, []) rfl
theorem g100_45 {c : Nat} : Y100 d Q 45 lv (.ref c :: st) σ ↔ zK c = 7 ∧ Y100 d Q 48 lv (zfv σ c 15 :: st) σ := yX_at (.getfield 76, 3, 7, 15, 189, 0, []) rfl
theorem g100_48 {x y : Int32} : Y100 d Q 48 lv (.int y :: .int x :: st) σ ↔ (y ≤ x → Y100 d Q 111 lv st σ) ∧ (¬ y ≤ x → Y100 d Q 51 lv st σ) := yX_at (.if_icmp .ge 63, 3, 111, 0, 0, 0, []) rfl
theorem g100_51  : Y100 d Q 51 lv st σ ↔ zldR lv 0 (fun x => Y100 d Q 52 lv (.ref x :: st) σ) := yX_at (.aload_n 0, 1, 0, 0, 0, 0, []) rfl
theorem g100_52 {c : Nat} : Y100 d Q 52 lv (.ref c :: st) σ ↔ zK c = 7 ∧ Y100 d Q 55 lv (zfv σ c 14 :: st) σ := yX_at (.getfield 41, 3, 7, 14, 190, 0, []) rfl
theorem g100_55  : Y100 d Q 55 lv st σ ↔ zldR lv 0 (fun x => Y100 d Q 56 lv (.ref x :: st) σ) := yX_at (.aload_n 0, 1, 0, 0, 0, 0, []) rfl
theorem g100_56 {c : Nat} : Y100 d Q 56 lv (.ref c :: st) σ ↔ zK c = 7 ∧ Y100 d Q 59 lv (zfv σ c 17 :: st) σ := yX_at (.getfield 81, 3, 7, 17, 192, 0, []) rfl
theorem g100_59 {j : Int32} {c : Nat} : Y100 d Q 59 lv (.int j :: .ref c :: st) σ ↔ (zK c = 100 ∧ vp_in j (zLn c)) ∧ Y100 d Q 60 lv (.int (σ.1 c j.toNatClampNeg) :: st) σ := yX_at (.iaload, 1, 0, 0, 0, 0, []) rfl
theorem g100_60 {x : Int32} : Y100 d Q 60 lv (.int x :: st) σ ↔ Y100 d Q 61 lv (.long x.toInt64 :: st) σ := yX_at (.i2l, 1, 0, 0, 0, 0, []) rfl
theorem g100_61  : Y100 d Q 61 lv st σ ↔ Y100 d Q 64 lv (.long 48 :: st) σ := yX_at (.ldc2_w 91, 3, 0, 0, 195, 48, []) rfl
theorem g100_64  : Y100 d Q 64 lv st σ ↔ Y100 d Q 67 lv (.long 57 :: st) σ := yX_at (.ldc2_w 93, 3, 0, 0, 196, 57, []) rfl
theorem g100_67 {v0 v1 v2 : Value} : Y100 d Q 67 lv (v2 :: v1 :: v0 :: st) σ ↔ zrm st ∧ ∃ rv σ', yE d 91 [v0, v1, v2] σ rv σ' ∧ Y100 d Q 70 lv (rv.toList ++ st) σ' := yX_at (.invokestatic 67, 3, 91, 3, 186, 0, []) rfl
theorem g100_70 {x : Int32} : Y100 d Q 70 lv (.int x :: st) σ ↔ (x = 0 → Y100 d Q 111 lv st σ) ∧ (¬ x = 0 → Y100 d Q 73 lv st σ) := yX_at (.ifCond .eq 41, 3, 111, 0, 0, 0, []) rfl
theorem g100_73  : Y100 d Q 73 lv st σ ↔ Y100 d Q 75 lv (.int 10 :: st) σ := yX_at (.bipush 10, 2, 0, 0, 0, 0, []) rfl
theorem g100_75  : Y100 d Q 75 lv st σ ↔ zldI lv 5 (fun x => Y100 d Q 77 lv (.int x :: st) σ) := yX_at (.iload 5, 2, 0, 0, 0, 0, []) rfl
theorem g100_77 {x y : Int32} : Y100 d Q 77 lv (.int y :: .int x :: st) σ ↔ Y100 d Q 78 lv (.int (x * y) :: st) σ := yX_at (.imul, 1, 0, 0, 0, 0, []) rfl
theorem g100_78  : Y100 d Q 78 lv st σ ↔ zldR lv 0 (fun x => Y100 d Q 79 lv (.ref x :: st) σ) := yX_at (.aload_n 0, 1, 0, 0, 0, 0, []) rfl
theorem g100_79 {c : Nat} : Y100 d Q 79 lv (.ref c :: st) σ ↔ zK c = 7 ∧ Y100 d Q 82 lv (zfv σ c 14 :: st) σ := yX_at (.getfield 41, 3, 7, 14, 190, 0, []) rfl
theorem g100_82  : Y100 d Q 82 lv st σ ↔ zldR lv 0 (fun x => Y100 d Q 83 lv (.ref x :: st) σ) := yX_at (.aload_n 0, 1, 0, 0, 0, 0, []) rfl
theorem g100_83 {c : Nat} : Y100 d Q 83 lv (.ref c :: st) σ ↔ zK c = 7 ∧ Y100 d Q 86 lv (zfv σ c 17 :: st) σ := yX_at (.getfield 81, 3, 7, 17, 192, 0, []) rfl
theorem g100_86 {j : Int32} {c : Nat} : Y100 d Q 86 lv (.int j :: .ref c :: st) σ ↔ (zK c = 100 ∧ vp_in j (zLn c)) ∧ Y100 d Q 87 lv (.int (σ.1 c j.toNatClampNeg) :: st) σ := yX_at (.iaload, 1, 0, 0, 0, 0, []) rfl
theorem g100_87 {x y : Int32} : Y100 d Q 87 lv (.int y :: .int x :: st) σ ↔ Y100 d Q 88 lv (.int (x + y) :: st) σ := yX_at (.iadd, 1, 0, 0, 0, 0, []) rfl
theorem g100_88  : Y100 d Q 88 lv st σ ↔ Y100 d Q 90 lv (.int 48 :: st) σ := yX_at (.bipush 48, 2, 0, 0, 0, 0, []) rfl
theorem g100_90 {x y : Int32} : Y100 d Q 90 lv (.int y :: .int x :: st) σ ↔ Y100 d Q 91 lv (.int (x - y) :: st) σ := yX_at (.isub, 1, 0, 0, 0, 0, []) rfl
theorem g100_91  : Y100 d Q 91 lv st σ ↔ Y100 d Q 93 lv (.int 100 :: st) σ := yX_at (.bipush 100, 2, 0, 0, 0, 0, []) rfl
theorem g100_93 {v0 v1 : Value} : Y100 d Q 93 lv (v1 :: v0 :: st) σ ↔ zrm st ∧ ∃ rv σ', yE d 94 [v0, v1] σ rv σ' ∧ Y100 d Q 96 lv (rv.toList ++ st) σ' := yX_at (.invokestatic 95, 3, 94, 2, 197, 0, []) rfl
theorem g100_96 {x : Int32} : Y100 d Q 96 lv (.int x :: st) σ ↔ Y100 d Q 98 (zs1 5 (.int x) lv) st σ := yX_at (.istore 5, 2, 0, 0, 0, 0, []) rfl
theorem g100_98  : Y100 d Q 98 lv st σ ↔ zldR lv 0 (fun x => Y100 d Q 99 lv (.ref x :: st) σ) := yX_at (.aload_n 0, 1, 0, 0, 0, 0, []) rfl
theorem g100_99  : Y100 d Q 99 lv st σ ↔ zdup st (fun r => Y100 d Q 100 lv r σ) := yX_at (.dup, 1, 0, 0, 0, 0, []) rfl
theorem g100_100 {c : Nat} : Y100 d Q 100 lv (.ref c :: st) σ ↔ zK c = 7 ∧ Y100 d Q 103 lv (zfv σ c 17 :: st) σ := yX_at (.getfield 81, 3, 7, 17, 192, 0, []) rfl
theorem g100_103  : Y100 d Q 103 lv st σ ↔ Y100 d Q 104 lv (.int 1 :: st) σ := yX_at (.iconst 1, 1, 0, 0, 0, 0, []) rfl
theorem g100_104 {x y : Int32} : Y100 d Q 104 lv (.int y :: .int x :: st) σ ↔ Y100 d Q 105 lv (.int (x + y) :: st) σ := yX_at (.iadd, 1, 0, 0, 0, 0, []) rfl
theorem g100_105 {x : Int32} {c : Nat} : Y100 d Q 105 lv (.int x :: .ref c :: st) σ ↔ zK c = 7 ∧ Y100 d Q 108 lv st (zwI σ c 17 x) := yX_at (.putfield 81, 3, 7, 17, 192, 0, []) rfl
theorem g100_108  : Y100 d Q 108 lv st σ ↔ Y100 d Q 40 lv st σ := yX_at (.goto (-68), 3, 40, 0, 0, 0, []) rfl
theorem g100_111  : Y100 d Q 111 lv st σ ↔ zldR lv 0 (fun x => Y100 d Q 112 lv (.ref x :: st) σ) := yX_at (.aload_n 0, 1, 0, 0, 0, 0, []) rfl
theorem g100_112 {c : Nat} : Y100 d Q 112 lv (.ref c :: st) σ ↔ zK c = 7 ∧ Y100 d Q 115 lv (zfv σ c 17 :: st) σ := yX_at (.getfield 81, 3, 7, 17, 192, 0, []) rfl
theorem g100_115  : Y100 d Q 115 lv st σ ↔ zldI lv 4 (fun x => Y100 d Q 117 lv (.int x :: st) σ) := yX_at (.iload 4, 2, 0, 0, 0, 0, []) rfl
theorem g100_117 {x y : Int32} : Y100 d Q 117 lv (.int y :: .int x :: st) σ ↔ (x ≤ y → Y100 d Q 171 lv st σ) ∧ (¬ x ≤ y → Y100 d Q 120 lv st σ) := yX_at (.if_icmp .le 54, 3, 171, 0, 0, 0, []) rfl
theorem g100_120  : Y100 d Q 120 lv st σ ↔ zldR lv 0 (fun x => Y100 d Q 121 lv (.ref x :: st) σ) := yX_at (.aload_n 0, 1, 0, 0, 0, 0, []) rfl
theorem g100_121 {c : Nat} : Y100 d Q 121 lv (.ref c :: st) σ ↔ zK c = 7 ∧ Y100 d Q 124 lv (zfv σ c 17 :: st) σ := yX_at (.getfield 81, 3, 7, 17, 192, 0, []) rfl
theorem g100_124  : Y100 d Q 124 lv st σ ↔ zldI lv 4 (fun x => Y100 d Q 126 lv (.int x :: st) σ) := yX_at (.iload 4, 2, 0, 0, 0, 0, []) rfl
theorem g100_126 {x y : Int32} : Y100 d Q 126 lv (.int y :: .int x :: st) σ ↔ Y100 d Q 127 lv (.int (x - y) :: st) σ := yX_at (.isub, 1, 0, 0, 0, 0, []) rfl
theorem g100_127  : Y100 d Q 127 lv st σ ↔ Y100 d Q 128 lv (.int 1 :: st) σ := yX_at (.iconst 1, 1, 0, 0, 0, 0, []) rfl
theorem g100_128 {x y : Int32} : Y100 d Q 128 lv (.int y :: .int x :: st) σ ↔ (x = y → Y100 d Q 143 lv st σ) ∧ (¬ x = y → Y100 d Q 131 lv st σ) := yX_at (.if_icmp .eq 15, 3, 143, 0, 0, 0, []) rfl
theorem g100_131  : Y100 d Q 131 lv st σ ↔ zldR lv 0 (fun x => Y100 d Q 132 lv (.ref x :: st) σ) := yX_at (.aload_n 0, 1, 0, 0, 0, 0, []) rfl
theorem g100_132 {c : Nat} : Y100 d Q 132 lv (.ref c :: st) σ ↔ zK c = 7 ∧ Y100 d Q 135 lv (zfv σ c 14 :: st) σ := yX_at (.getfield 41, 3, 7, 14, 190, 0, []) rfl
theorem g100_135  : Y100 d Q 135 lv st σ ↔ zldI lv 4 (fun x => Y100 d Q 137 lv (.int x :: st) σ) := yX_at (.iload 4, 2, 0, 0, 0, 0, []) rfl
theorem g100_137 {j : Int32} {c : Nat} : Y100 d Q 137 lv (.int j :: .ref c :: st) σ ↔ (zK c = 100 ∧ vp_in j (zLn c)) ∧ Y100 d Q 138 lv (.int (σ.1 c j.toNatClampNeg) :: st) σ := yX_at (.iaload, 1, 0, 0, 0, 0, []) rfl
theorem g100_138  : Y100 d Q 138 lv st σ ↔ Y100 d Q 140 lv (.int 48 :: st) σ := yX_at (.bipush 48, 2, 0, 0, 0, 0, []) rfl
theorem g100_140 {x y : Int32} : Y100 d Q 140 lv (.int y :: .int x :: st) σ ↔ (x = y → Y100 d Q 171 lv st σ) ∧ (¬ x = y → Y100 d Q 143 lv st σ) := yX_at (.if_icmp .eq 31, 3, 171, 0, 0, 0, []) rfl
theorem g100_143  : Y100 d Q 143 lv st σ ↔ zldI lv 5 (fun x => Y100 d Q 145 lv (.int x :: st) σ) := yX_at (.iload 5, 2, 0, 0, 0, 0, []) rfl
theorem g100_145 {x : Int32} : Y100 d Q 145 lv (.int x :: st) σ ↔ Y100 d Q 146 lv (.long x.toInt64 :: st) σ := yX_at (.i2l, 1, 0, 0, 0, 0, []) rfl
theorem g100_146  : Y100 d Q 146 lv st σ ↔ zldI lv 1 (fun x => Y100 d Q 147 lv (.int x :: st) σ) := yX_at (.iload_n 1, 1, 0, 0, 0, 0, []) rfl
theorem g100_147 {x : Int32} : Y100 d Q 147 lv (.int x :: st) σ ↔ Y100 d Q 148 lv (.long x.toInt64 :: st) σ := yX_at (.i2l, 1, 0, 0, 0, 0, []) rfl
theorem g100_148  : Y100 d Q 148 lv st σ ↔ zldI lv 2 (fun x => Y100 d Q 149 lv (.int x :: st) σ) := yX_at (.iload_n 2, 1, 0, 0, 0, 0, []) rfl
theorem g100_149  : Y100 d Q 149 lv st σ ↔ Y100 d Q 151 lv (.int 99 :: st) σ := yX_at (.bipush 99, 2, 0, 0, 0, 0, []) rfl
theorem g100_151 {v0 v1 : Value} : Y100 d Q 151 lv (v1 :: v0 :: st) σ ↔ zrm st ∧ ∃ rv σ', yE d 94 [v0, v1] σ rv σ' ∧ Y100 d Q 154 lv (rv.toList ++ st) σ' := yX_at (.invokestatic 95, 3, 94, 2, 197, 0, []) rfl
theorem g100_154 {x : Int32} : Y100 d Q 154 lv (.int x :: st) σ ↔ Y100 d Q 155 lv (.long x.toInt64 :: st) σ := yX_at (.i2l, 1, 0, 0, 0, 0, []) rfl
theorem g100_155 {v0 v1 v2 : Value} : Y100 d Q 155 lv (v2 :: v1 :: v0 :: st) σ ↔ zrm st ∧ ∃ rv σ', yE d 91 [v0, v1, v2] σ rv σ' ∧ Y100 d Q 158 lv (rv.toList ++ st) σ' := yX_at (.invokestatic 67, 3, 91, 3, 186, 0, []) rfl
theorem g100_158 {x : Int32} : Y100 d Q 158 lv (.int x :: st) σ ↔ (x = 0 → Y100 d Q 171 lv st σ) ∧ (¬ x = 0 → Y100 d Q 161 lv st σ) := yX_at (.ifCond .eq 13, 3, 171, 0, 0, 0, []) rfl
theorem g100_161  : Y100 d Q 161 lv st σ ↔ zldI lv 5 (fun x => Y100 d Q 163 lv (.int x :: st) σ) := yX_at (.iload 5, 2, 0, 0, 0, 0, []) rfl
theorem g100_163  : Y100 d Q 163 lv st σ ↔ zldI lv 3 (fun x => Y100 d Q 164 lv (.int x :: st) σ) := yX_at (.iload_n 3, 1, 0, 0, 0, 0, []) rfl
theorem g100_164 {x y : Int32} : Y100 d Q 164 lv (.int y :: .int x :: st) σ ↔ (x = y → Y100 d Q 171 lv st σ) ∧ (¬ x = y → Y100 d Q 167 lv st σ) := yX_at (.if_icmp .eq 7, 3, 171, 0, 0, 0, []) rfl
theorem g100_167  : Y100 d Q 167 lv st σ ↔ Y100 d Q 168 lv (.int 1 :: st) σ := yX_at (.iconst 1, 1, 0, 0, 0, 0, []) rfl
theorem g100_168  : Y100 d Q 168 lv st σ ↔ Y100 d Q 172 lv st σ := yX_at (.goto 4, 3, 172, 0, 0, 0, []) rfl
theorem g100_171  : Y100 d Q 171 lv st σ ↔ Y100 d Q 172 lv (.int 0 :: st) σ := yX_at (.iconst 0, 1, 0, 0, 0, 0, []) rfl
theorem g100_172 {x : Int32} : Y100 d Q 172 lv (.int x :: st) σ ↔ Y100 d Q 174 (zs1 6 (.int x) lv) st σ := yX_at (.istore 6, 2, 0, 0, 0, 0, []) rfl
theorem g100_174  : Y100 d Q 174 lv st σ ↔ zldR lv 0 (fun x => Y100 d Q 175 lv (.ref x :: st) σ) := yX_at (.aload_n 0, 1, 0, 0, 0, 0, []) rfl
theorem g100_175  : Y100 d Q 175 lv st σ ↔ zldI lv 6 (fun x => Y100 d Q 177 lv (.int x :: st) σ) := yX_at (.iload 6, 2, 0, 0, 0, 0, []) rfl
theorem g100_177 {x : Int32} : Y100 d Q 177 lv (.int x :: st) σ ↔ (x = 0 → Y100 d Q 187 lv st σ) ∧ (¬ x = 0 → Y100 d Q 180 lv st σ) := yX_at (.ifCond .eq 10, 3, 187, 0, 0, 0, []) rfl
theorem g100_180  : Y100 d Q 180 lv st σ ↔ zldR lv 0 (fun x => Y100 d Q 181 lv (.ref x :: st) σ) := yX_at (.aload_n 0, 1, 0, 0, 0, 0, []) rfl
theorem g100_181 {c : Nat} : Y100 d Q 181 lv (.ref c :: st) σ ↔ zK c = 7 ∧ Y100 d Q 184 lv (zfv σ c 18 :: st) σ := yX_at (.getfield 84, 3, 7, 18, 193, 0, []) rfl
theorem g100_184  : Y100 d Q 184 lv st σ ↔ Y100 d Q 189 lv st σ := yX_at (.goto 5, 3, 189, 0, 0, 0, []) rfl
theorem g100_187  : Y100 d Q 187 lv st σ ↔ zldI lv 4 (fun x => Y100 d Q 189 lv (.int x :: st) σ) := yX_at (.iload 4, 2, 0, 0, 0, 0, []) rfl
theorem g100_189 {x : Int32} {c : Nat} : Y100 d Q 189 lv (.int x :: .ref c :: st) σ ↔ zK c = 7 ∧ Y100 d Q 192 lv st (zwI σ c 18 x) := yX_at (.putfield 84, 3, 7, 18, 193, 0, []) rfl
theorem g100_192  : Y100 d Q 192 lv st σ ↔ zldI lv 5 (fun x => Y100 d Q 194 lv (.int x :: st) σ) := yX_at (.iload 5, 2, 0, 0, 0, 0, []) rfl
theorem g100_194 {x : Int32} : Y100 d Q 194 lv [.int x] σ ↔ Q (some (.int x)) σ := yX_at (.ireturn, 1, 0, 0, 0, 0, []) rfl
end G100
def Y101 (d : Nat) (Q : Option Value → zSt → Prop) (pc : Nat) (lv : zLv) (st : List Value) (σ : zSt) : Prop := yX (yE d) ySn zt101 Q pc lv st σ
theorem C101 {d : Nat} {as : List Value} {σ : zSt} {P : Option Value → zSt → Prop} (hl : (lg_sl as).length ≤ 4) (h : Y101 d P 0 (lv_args 0 as) [] σ) : yC (d + 1) 101 as σ P := yC_of (by decide) hl h
section G101
variable {d : Nat} {Q : Option Value → zSt → Prop} {lv : zLv} {st : List Value} {σ : zSt}
theorem g101_0  : Y101 d Q 0 lv st σ ↔ Y101 d Q 1 lv (.long 0 :: st) σ := yX_at (.lconst 0, 1, 0, 0, 0, 0, []) rfl
theorem g101_1 {x : Int64} : Y101 d Q 1 lv (.long x :: st) σ ↔ Y101 d Q 2 (zs2 1 (.long x) lv) st σ := yX_at (.lstore_n 1, 1, 0, 0, 0, 0, []) rfl
theorem g101_2  : Y101 d Q 2 lv st σ ↔ zldR lv 0 (fun x => Y101 d Q 3 lv (.ref x :: st) σ) := yX_at (.aload_n 0, 1, 0, 0, 0, 0, []) rfl
theorem g101_3 {c : Nat} : Y101 d Q 3 lv (.ref c :: st) σ ↔ zK c = 7 ∧ Y101 d Q 6 lv (zfv σ c 17 :: st) σ := yX_at (.getfield 81, 3, 7, 17, 192, 0, []) rfl
theorem g101_6 {x : Int32} : Y101 d Q 6 lv (.int x :: st) σ ↔ Y101 d Q 7 (zs1 3 (.int x) lv) st σ := yX_at (.istore_n 3, 1, 0, 0, 0, 0, []) rfl
theorem g101_7  : Y101 d Q 7 lv st σ ↔ zldR lv 0 (fun x => Y101 d Q 8 lv (.ref x :: st) σ) := yX_at (.aload_n 0, 1, 0, 0, 0, 0, []) rfl
theorem g101_8 {c : Nat} : Y101 d Q 8 lv (.ref c :: st) σ ↔ zK c = 7 ∧ Y101 d Q 11 lv (zfv σ c 17 :: st) σ := yX_at (.getfield 81, 3, 7, 17, 192, 0, []) rfl
theorem g101_11  : Y101 d Q 11 lv st σ ↔ zldR lv 0 (fun x => Y101 d Q 12 lv (.ref x :: st) σ) := yX_at (.aload_n 0, 1, 0, 0, 0, 0, []) rfl
theorem g101_12 {c : Nat} : Y101 d Q 12 lv (.ref c :: st) σ ↔ zK c = 7 ∧ Y101 d Q 15 lv (zfv σ c 15 :: st) σ := yX_at (.getfield 76, 3, 7, 15, 189, 0, []) rfl
theorem g101_15 {x y : Int32} : Y101 d Q 15 lv (.int y :: .int x :: st) σ ↔ (y ≤ x → Y101 d Q 89 lv st σ) ∧ (¬ y ≤ x → Y101 d Q 18 lv st σ) := yX_at (.if_icmp .ge 74, 3, 89, 0, 0, 0, []) rfl
theorem g101_18  : Y101 d Q 18 lv st σ ↔ zldR lv 0 (fun x => Y101 d Q 19 lv (.ref x :: st) σ) := yX_at (.aload_n 0, 1, 0, 0, 0, 0, []) rfl
theorem g101_19 {c : Nat} : Y101 d Q 19 lv (.ref c :: st) σ ↔ zK c = 7 ∧ Y101 d Q 22 lv (zfv σ c 14 :: st) σ := yX_at (.getfield 41, 3, 7, 14, 190, 0, []) rfl
theorem g101_22  : Y101 d Q 22 lv st σ ↔ zldR lv 0 (fun x => Y101 d Q 23 lv (.ref x :: st) σ) := yX_at (.aload_n 0, 1, 0, 0, 0, 0, []) rfl
theorem g101_23 {c : Nat} : Y101 d Q 23 lv (.ref c :: st) σ ↔ zK c = 7 ∧ Y101 d Q 26 lv (zfv σ c 17 :: st) σ := yX_at (.getfield 81, 3, 7, 17, 192, 0, []) rfl
theorem g101_26 {j : Int32} {c : Nat} : Y101 d Q 26 lv (.int j :: .ref c :: st) σ ↔ (zK c = 100 ∧ vp_in j (zLn c)) ∧ Y101 d Q 27 lv (.int (σ.1 c j.toNatClampNeg) :: st) σ := yX_at (.iaload, 1, 0, 0, 0, 0, []) rfl
theorem g101_27 {x : Int32} : Y101 d Q 27 lv (.int x :: st) σ ↔ Y101 d Q 28 lv (.long x.toInt64 :: st) σ := yX_at (.i2l, 1, 0, 0, 0, 0, []) rfl
theorem g101_28  : Y101 d Q 28 lv st σ ↔ Y101 d Q 31 lv (.long 97 :: st) σ := yX_at (.ldc2_w 99, 3, 0, 0, 198, 97, []) rfl
theorem g101_31  : Y101 d Q 31 lv st σ ↔ Y101 d Q 34 lv (.long 122 :: st) σ := yX_at (.ldc2_w 101, 3, 0, 0, 199, 122, []) rfl
theorem g101_34 {v0 v1 v2 : Value} : Y101 d Q 34 lv (v2 :: v1 :: v0 :: st) σ ↔ zrm st ∧ ∃ rv σ', yE d 91 [v0, v1, v2] σ rv σ' ∧ Y101 d Q 37 lv (rv.toList ++ st) σ' := yX_at (.invokestatic 67, 3, 91, 3, 186, 0, []) rfl
theorem g101_37 {x : Int32} : Y101 d Q 37 lv (.int x :: st) σ ↔ (x = 0 → Y101 d Q 89 lv st σ) ∧ (¬ x = 0 → Y101 d Q 40 lv st σ) := yX_at (.ifCond .eq 52, 3, 89, 0, 0, 0, []) rfl
theorem g101_40  : Y101 d Q 40 lv st σ ↔ zldR lv 0 (fun x => Y101 d Q 41 lv (.ref x :: st) σ) := yX_at (.aload_n 0, 1, 0, 0, 0, 0, []) rfl
theorem g101_41 {c : Nat} : Y101 d Q 41 lv (.ref c :: st) σ ↔ zK c = 7 ∧ Y101 d Q 44 lv (zfv σ c 17 :: st) σ := yX_at (.getfield 81, 3, 7, 17, 192, 0, []) rfl
theorem g101_44  : Y101 d Q 44 lv st σ ↔ zldI lv 3 (fun x => Y101 d Q 45 lv (.int x :: st) σ) := yX_at (.iload_n 3, 1, 0, 0, 0, 0, []) rfl
theorem g101_45 {x y : Int32} : Y101 d Q 45 lv (.int y :: .int x :: st) σ ↔ Y101 d Q 46 lv (.int (x - y) :: st) σ := yX_at (.isub, 1, 0, 0, 0, 0, []) rfl
theorem g101_46  : Y101 d Q 46 lv st σ ↔ Y101 d Q 48 lv (.int 7 :: st) σ := yX_at (.bipush 7, 2, 0, 0, 0, 0, []) rfl
theorem g101_48 {x y : Int32} : Y101 d Q 48 lv (.int y :: .int x :: st) σ ↔ (y ≤ x → Y101 d Q 74 lv st σ) ∧ (¬ y ≤ x → Y101 d Q 51 lv st σ) := yX_at (.if_icmp .ge 26, 3, 74, 0, 0, 0, []) rfl
theorem g101_51  : Y101 d Q 51 lv st σ ↔ Y101 d Q 54 lv (.long 32 :: st) σ := yX_at (.ldc2_w 103, 3, 0, 0, 200, 32, []) rfl
theorem g101_54  : Y101 d Q 54 lv st σ ↔ zldJ lv 1 (fun x => Y101 d Q 55 lv (.long x :: st) σ) := yX_at (.lload_n 1, 1, 0, 0, 0, 0, []) rfl
theorem g101_55 {x y : Int64} : Y101 d Q 55 lv (.long y :: .long x :: st) σ ↔ Y101 d Q 56 lv (.long (x * y) :: st) σ := yX_at (.lmul, 1, 0, 0, 0, 0, []) rfl
theorem g101_56  : Y101 d Q 56 lv st σ ↔ zldR lv 0 (fun x => Y101 d Q 57 lv (.ref x :: st) σ) := yX_at (.aload_n 0, 1, 0, 0, 0, 0, []) rfl
theorem g101_57 {c : Nat} : Y101 d Q 57 lv (.ref c :: st) σ ↔ zK c = 7 ∧ Y101 d Q 60 lv (zfv σ c 14 :: st) σ := yX_at (.getfield 41, 3, 7, 14, 190, 0, []) rfl
theorem g101_60  : Y101 d Q 60 lv st σ ↔ zldR lv 0 (fun x => Y101 d Q 61 lv (.ref x :: st) σ) := yX_at (.aload_n 0, 1, 0, 0, 0, 0, []) rfl
theorem g101_61 {c : Nat} : Y101 d Q 61 lv (.ref c :: st) σ ↔ zK c = 7 ∧ Y101 d Q 64 lv (zfv σ c 17 :: st) σ := yX_at (.getfield 81, 3, 7, 17, 192, 0, []) rfl
theorem g101_64 {j : Int32} {c : Nat} : Y101 d Q 64 lv (.int j :: .ref c :: st) σ ↔ (zK c = 100 ∧ vp_in j (zLn c)) ∧ Y101 d Q 65 lv (.int (σ.1 c j.toNatClampNeg) :: st) σ := yX_at (.iaload, 1, 0, 0, 0, 0, []) rfl
theorem g101_65 {x : Int32} : Y101 d Q 65 lv (.int x :: st) σ ↔ Y101 d Q 66 lv (.long x.toInt64 :: st) σ := yX_at (.i2l, 1, 0, 0, 0, 0, []) rfl
theorem g101_66 {x y : Int64} : Y101 d Q 66 lv (.long y :: .long x :: st) σ ↔ Y101 d Q 67 lv (.long (x + y) :: st) σ := yX_at (.ladd, 1, 0, 0, 0, 0, []) rfl
theorem g101_67  : Y101 d Q 67 lv st σ ↔ Y101 d Q 70 lv (.long 96 :: st) σ := yX_at (.ldc2_w 105, 3, 0, 0, 201, 96, []) rfl
theorem g101_70 {x y : Int64} : Y101 d Q 70 lv (.long y :: .long x :: st) σ ↔ Y101 d Q 71 lv (.long (x - y) :: st) σ := yX_at (.lsub, 1, 0, 0, 0, 0, []) rfl
theorem g101_71  : Y101 d Q 71 lv st σ ↔ Y101 d Q 75 lv st σ := yX_at (.goto 4, 3, 75, 0, 0, 0, []) rfl
theorem g101_74  : Y101 d Q 74 lv st σ ↔ zldJ lv 1 (fun x => Y101 d Q 75 lv (.long x :: st) σ) := yX_at (.lload_n 1, 1, 0, 0, 0, 0, []) rfl
theorem g101_75 {x : Int64} : Y101 d Q 75 lv (.long x :: st) σ ↔ Y101 d Q 76 (zs2 1 (.long x) lv) st σ := yX_at (.lstore_n 1, 1, 0, 0, 0, 0, []) rfl
theorem g101_76  : Y101 d Q 76 lv st σ ↔ zldR lv 0 (fun x => Y101 d Q 77 lv (.ref x :: st) σ) := yX_at (.aload_n 0, 1, 0, 0, 0, 0, []) rfl
theorem g101_77  : Y101 d Q 77 lv st σ ↔ zdup st (fun r => Y101 d Q 78 lv r σ) := yX_at (.dup, 1, 0, 0, 0, 0, []) rfl
theorem g101_78 {c : Nat} : Y101 d Q 78 lv (.ref c :: st) σ ↔ zK c = 7 ∧ Y101 d Q 81 lv (zfv σ c 17 :: st) σ := yX_at (.getfield 81, 3, 7, 17, 192, 0, []) rfl
theorem g101_81  : Y101 d Q 81 lv st σ ↔ Y101 d Q 82 lv (.int 1 :: st) σ := yX_at (.iconst 1, 1, 0, 0, 0, 0, []) rfl
theorem g101_82 {x y : Int32} : Y101 d Q 82 lv (.int y :: .int x :: st) σ ↔ Y101 d Q 83 lv (.int (x + y) :: st) σ := yX_at (.iadd, 1, 0, 0, 0, 0, []) rfl
theorem g101_83 {x : Int32} {c : Nat} : Y101 d Q 83 lv (.int x :: .ref c :: st) σ ↔ zK c = 7 ∧ Y101 d Q 86 lv st (zwI σ c 17 x) := yX_at (.putfield 81, 3, 7, 17, 192, 0, []) rfl
theorem g101_86  : Y101 d Q 86 lv st σ ↔ Y101 d Q 7 lv st σ := yX_at (.goto (-79), 3, 7, 0, 0, 0, []) rfl
theorem g101_89  : Y101 d Q 89 lv st σ ↔ zldJ lv 1 (fun x => Y101 d Q 90 lv (.long x :: st) σ) := yX_at (.lload_n 1, 1, 0, 0, 0, 0, []) rfl
theorem g101_90 {x : Int64} : Y101 d Q 90 lv [.long x] σ ↔ Q (some (.long x)) σ := yX_at (.lreturn, 1, 0, 0, 0, 0, []) rfl
end G101
def Y102 (d : Nat) (Q : Option Value → zSt → Prop) (pc : Nat) (lv : zLv) (st : List Value) (σ : zSt) : Prop := yX (yE d) ySn zt102 Q pc lv st σ
theorem C102 {d : Nat} {as : List Value} {σ : zSt} {P : Option Value → zSt → Prop} (hl : (lg_sl as).length ≤ 5) (h : Y102 d P 0 (lv_args 0 as) [] σ) : yC (d + 1) 102 as σ P := yC_of (by decide) hl h
section G102
variable {d : Nat} {Q : Option Value → zSt → Prop} {lv : zLv} {st : List Value} {σ : zSt}
theorem g102_0  : Y102 d Q 0 lv st σ ↔ zldR lv 0 (fun x => Y102 d Q 1 lv (.ref x :: st) σ) := yX_at (.aload_n 0, 1, 0, 0, 0, 0, []) rfl
theorem g102_1 {c : Nat} : Y102 d Q 1 lv (.ref c :: st) σ ↔ zK c = 7 ∧ Y102 d Q 4 lv (zfv σ c 17 :: st) σ := yX_at (.getfield 81, 3, 7, 17, 192, 0, []) rfl
theorem g102_4 {x : Int32} : Y102 d Q 4 lv (.int x :: st) σ ↔ Y102 d Q 5 (zs1 1 (.int x) lv) st σ := yX_at (.istore_n 1, 1, 0, 0, 0, 0, []) rfl
theorem g102_5  : Y102 d Q 5 lv st σ ↔ zldR lv 0 (fun x => Y102 d Q 6 lv (.ref x :: st) σ) := yX_at (.aload_n 0, 1, 0, 0, 0, 0, []) rfl
theorem g102_6 {c : Nat} : Y102 d Q 6 lv (.ref c :: st) σ ↔ (zrcv 7 c ∧ zrm st) ∧ ∃ rv σ', yE d 101 [.ref c] σ rv σ' ∧ Y102 d Q 9 lv (rv.toList ++ st) σ' := yX_at (.invokevirtual 107, 3, 101, 0, 202, 0, []) rfl
theorem g102_9 {x : Int64} : Y102 d Q 9 lv (.long x :: st) σ ↔ Y102 d Q 10 (zs2 2 (.long x) lv) st σ := yX_at (.lstore_n 2, 1, 0, 0, 0, 0, []) rfl
theorem g102_10  : Y102 d Q 10 lv st σ ↔ zldJ lv 2 (fun x => Y102 d Q 11 lv (.long x :: st) σ) := yX_at (.lload_n 2, 1, 0, 0, 0, 0, []) rfl
theorem g102_11  : Y102 d Q 11 lv st σ ↔ Y102 d Q 14 lv (.long 542723566 :: st) σ := yX_at (.ldc2_w 111, 3, 0, 0, 203, 542723566, []) rfl
theorem g102_14 {x y : Int64} : Y102 d Q 14 lv (.long y :: .long x :: st) σ ↔ Y102 d Q 15 lv (.int (lg_cmp x y) :: st) σ := yX_at (.lcmp, 1, 0, 0, 0, 0, []) rfl
theorem g102_15 {x : Int32} : Y102 d Q 15 lv (.int x :: st) σ ↔ (¬ x = 0 → Y102 d Q 98 lv st σ) ∧ (x = 0 → Y102 d Q 18 lv st σ) := yX_at (.ifCond .ne 83, 3, 98, 0, 0, 0, []) rfl
theorem g102_18  : Y102 d Q 18 lv st σ ↔ zldR lv 0 (fun x => Y102 d Q 19 lv (.ref x :: st) σ) := yX_at (.aload_n 0, 1, 0, 0, 0, 0, []) rfl
theorem g102_19 {c : Nat} : Y102 d Q 19 lv (.ref c :: st) σ ↔ zK c = 7 ∧ Y102 d Q 22 lv (zfv σ c 19 :: st) σ := yX_at (.getfield 113, 3, 7, 19, 204, 0, []) rfl
theorem g102_22  : Y102 d Q 22 lv st σ ↔ Y102 d Q 23 lv (.int 4 :: st) σ := yX_at (.iconst 4, 1, 0, 0, 0, 0, []) rfl
theorem g102_23 {x y : Int32} : Y102 d Q 23 lv (.int y :: .int x :: st) σ ↔ (y ≤ x → Y102 d Q 98 lv st σ) ∧ (¬ y ≤ x → Y102 d Q 26 lv st σ) := yX_at (.if_icmp .ge 75, 3, 98, 0, 0, 0, []) rfl
theorem g102_26  : Y102 d Q 26 lv st σ ↔ zldR lv 0 (fun x => Y102 d Q 27 lv (.ref x :: st) σ) := yX_at (.aload_n 0, 1, 0, 0, 0, 0, []) rfl
theorem g102_27 {c : Nat} : Y102 d Q 27 lv (.ref c :: st) σ ↔ zK c = 7 ∧ Y102 d Q 30 lv (zfv σ c 20 :: st) σ := yX_at (.getfield 44, 3, 7, 20, 205, 0, []) rfl
theorem g102_30  : Y102 d Q 30 lv st σ ↔ Y102 d Q 31 lv (.int 3 :: st) σ := yX_at (.iconst 3, 1, 0, 0, 0, 0, []) rfl
theorem g102_31  : Y102 d Q 31 lv st σ ↔ zldR lv 0 (fun x => Y102 d Q 32 lv (.ref x :: st) σ) := yX_at (.aload_n 0, 1, 0, 0, 0, 0, []) rfl
theorem g102_32 {c : Nat} : Y102 d Q 32 lv (.ref c :: st) σ ↔ zK c = 7 ∧ Y102 d Q 35 lv (zfv σ c 19 :: st) σ := yX_at (.getfield 113, 3, 7, 19, 204, 0, []) rfl
theorem g102_35 {x y : Int32} : Y102 d Q 35 lv (.int y :: .int x :: st) σ ↔ Y102 d Q 36 lv (.int (x * y) :: st) σ := yX_at (.imul, 1, 0, 0, 0, 0, []) rfl
theorem g102_36  : Y102 d Q 36 lv st σ ↔ zldR lv 0 (fun x => Y102 d Q 37 lv (.ref x :: st) σ) := yX_at (.aload_n 0, 1, 0, 0, 0, 0, []) rfl
theorem g102_37  : Y102 d Q 37 lv st σ ↔ Y102 d Q 38 lv (.int 1 :: st) σ := yX_at (.iconst 1, 1, 0, 0, 0, 0, []) rfl
theorem g102_38  : Y102 d Q 38 lv st σ ↔ Y102 d Q 39 lv (.int 5 :: st) σ := yX_at (.iconst 5, 1, 0, 0, 0, 0, []) rfl
theorem g102_39  : Y102 d Q 39 lv st σ ↔ Y102 d Q 40 lv (.int (-1) :: st) σ := by
  rw [show (-1 : Int32) = Int32.ofInt (-1) from by decide]
  exact yX_at (.iconst (-1), 1, 0, 0, 0, 0, []) rfl
theorem g102_40 {v0 v1 v2 : Value} {c : Nat} : Y102 d Q 40 lv (v2 :: v1 :: v0 :: .ref c :: st) σ ↔ (zrcv 7 c ∧ zrm st) ∧ ∃ rv σ', yE d 100 [.ref c, v0, v1, v2] σ rv σ' ∧ Y102 d Q 43 lv (rv.toList ++ st) σ' := yX_at (.invokevirtual 116, 3, 100, 3, 206, 0, []) rfl
theorem g102_43 {x j : Int32} {c : Nat} : Y102 d Q 43 lv (.int x :: .int j :: .ref c :: st) σ ↔ (zK c = 100 ∧ vp_in j (zLn c)) ∧ Y102 d Q 44 lv st (zwI σ c j.toNatClampNeg x) := yX_at (.iastore, 1, 0, 0, 0, 0, []) rfl
theorem g102_44  : Y102 d Q 44 lv st σ ↔ zldR lv 0 (fun x => Y102 d Q 45 lv (.ref x :: st) σ) := yX_at (.aload_n 0, 1, 0, 0, 0, 0, []) rfl
theorem g102_45 {c : Nat} : Y102 d Q 45 lv (.ref c :: st) σ ↔ zK c = 7 ∧ Y102 d Q 48 lv (zfv σ c 20 :: st) σ := yX_at (.getfield 44, 3, 7, 20, 205, 0, []) rfl
theorem g102_48  : Y102 d Q 48 lv st σ ↔ Y102 d Q 49 lv (.int 3 :: st) σ := yX_at (.iconst 3, 1, 0, 0, 0, 0, []) rfl
theorem g102_49  : Y102 d Q 49 lv st σ ↔ zldR lv 0 (fun x => Y102 d Q 50 lv (.ref x :: st) σ) := yX_at (.aload_n 0, 1, 0, 0, 0, 0, []) rfl
theorem g102_50 {c : Nat} : Y102 d Q 50 lv (.ref c :: st) σ ↔ zK c = 7 ∧ Y102 d Q 53 lv (zfv σ c 19 :: st) σ := yX_at (.getfield 113, 3, 7, 19, 204, 0, []) rfl
theorem g102_53 {x y : Int32} : Y102 d Q 53 lv (.int y :: .int x :: st) σ ↔ Y102 d Q 54 lv (.int (x * y) :: st) σ := yX_at (.imul, 1, 0, 0, 0, 0, []) rfl
theorem g102_54  : Y102 d Q 54 lv st σ ↔ Y102 d Q 55 lv (.int 1 :: st) σ := yX_at (.iconst 1, 1, 0, 0, 0, 0, []) rfl
theorem g102_55 {x y : Int32} : Y102 d Q 55 lv (.int y :: .int x :: st) σ ↔ Y102 d Q 56 lv (.int (x + y) :: st) σ := yX_at (.iadd, 1, 0, 0, 0, 0, []) rfl
theorem g102_56  : Y102 d Q 56 lv st σ ↔ zldR lv 0 (fun x => Y102 d Q 57 lv (.ref x :: st) σ) := yX_at (.aload_n 0, 1, 0, 0, 0, 0, []) rfl
theorem g102_57  : Y102 d Q 57 lv st σ ↔ Y102 d Q 58 lv (.int 1 :: st) σ := yX_at (.iconst 1, 1, 0, 0, 0, 0, []) rfl
theorem g102_58  : Y102 d Q 58 lv st σ ↔ Y102 d Q 59 lv (.int 3 :: st) σ := yX_at (.iconst 3, 1, 0, 0, 0, 0, []) rfl
theorem g102_59  : Y102 d Q 59 lv st σ ↔ Y102 d Q 60 lv (.int (-1) :: st) σ := by
  rw [show (-1 : Int32) = Int32.ofInt (-1) from by decide]
  exact yX_at (.iconst (-1), 1, 0, 0, 0, 0, []) rfl
theorem g102_60 {v0 v1 v2 : Value} {c : Nat} : Y102 d Q 60 lv (v2 :: v1 :: v0 :: .ref c :: st) σ ↔ (zrcv 7 c ∧ zrm st) ∧ ∃ rv σ', yE d 100 [.ref c, v0, v1, v2] σ rv σ' ∧ Y102 d Q 63 lv (rv.toList ++ st) σ' := yX_at (.invokevirtual 116, 3, 100, 3, 206, 0, []) rfl
theorem g102_63 {x j : Int32} {c : Nat} : Y102 d Q 63 lv (.int x :: .int j :: .ref c :: st) σ ↔ (zK c = 100 ∧ vp_in j (zLn c)) ∧ Y102 d Q 64 lv st (zwI σ c j.toNatClampNeg x) := yX_at (.iastore, 1, 0, 0, 0, 0, []) rfl
theorem g102_64  : Y102 d Q 64 lv st σ ↔ zldR lv 0 (fun x => Y102 d Q 65 lv (.ref x :: st) σ) := yX_at (.aload_n 0, 1, 0, 0, 0, 0, []) rfl
theorem g102_65 {c : Nat} : Y102 d Q 65 lv (.ref c :: st) σ ↔ zK c = 7 ∧ Y102 d Q 68 lv (zfv σ c 20 :: st) σ := yX_at (.getfield 44, 3, 7, 20, 205, 0, []) rfl
theorem g102_68  : Y102 d Q 68 lv st σ ↔ Y102 d Q 69 lv (.int 3 :: st) σ := yX_at (.iconst 3, 1, 0, 0, 0, 0, []) rfl
theorem g102_69  : Y102 d Q 69 lv st σ ↔ zldR lv 0 (fun x => Y102 d Q 70 lv (.ref x :: st) σ) := yX_at (.aload_n 0, 1, 0, 0, 0, 0, []) rfl
theorem g102_70 {c : Nat} : Y102 d Q 70 lv (.ref c :: st) σ ↔ zK c = 7 ∧ Y102 d Q 73 lv (zfv σ c 19 :: st) σ := yX_at (.getfield 113, 3, 7, 19, 204, 0, []) rfl
theorem g102_73 {x y : Int32} : Y102 d Q 73 lv (.int y :: .int x :: st) σ ↔ Y102 d Q 74 lv (.int (x * y) :: st) σ := yX_at (.imul, 1, 0, 0, 0, 0, []) rfl
theorem g102_74  : Y102 d Q 74 lv st σ ↔ Y102 d Q 75 lv (.int 2 :: st) σ := yX_at (.iconst 2, 1, 0, 0, 0, 0, []) rfl
theorem g102_75 {x y : Int32} : Y102 d Q 75 lv (.int y :: .int x :: st) σ ↔ Y102 d Q 76 lv (.int (x + y) :: st) σ := yX_at (.iadd, 1, 0, 0, 0, 0, []) rfl
theorem g102_76  : Y102 d Q 76 lv st σ ↔ zldR lv 0 (fun x => Y102 d Q 77 lv (.ref x :: st) σ) := yX_at (.aload_n 0, 1, 0, 0, 0, 0, []) rfl
theorem g102_77  : Y102 d Q 77 lv st σ ↔ Y102 d Q 78 lv (.int 0 :: st) σ := yX_at (.iconst 0, 1, 0, 0, 0, 0, []) rfl
theorem g102_78  : Y102 d Q 78 lv st σ ↔ Y102 d Q 80 lv (.int 9 :: st) σ := yX_at (.bipush 9, 2, 0, 0, 0, 0, []) rfl
theorem g102_80  : Y102 d Q 80 lv st σ ↔ Y102 d Q 81 lv (.int (-1) :: st) σ := by
  rw [show (-1 : Int32) = Int32.ofInt (-1) from by decide]
  exact yX_at (.iconst (-1), 1, 0, 0, 0, 0, []) rfl
theorem g102_81 {v0 v1 v2 : Value} {c : Nat} : Y102 d Q 81 lv (v2 :: v1 :: v0 :: .ref c :: st) σ ↔ (zrcv 7 c ∧ zrm st) ∧ ∃ rv σ', yE d 100 [.ref c, v0, v1, v2] σ rv σ' ∧ Y102 d Q 84 lv (rv.toList ++ st) σ' := yX_at (.invokevirtual 116, 3, 100, 3, 206, 0, []) rfl
theorem g102_84 {x j : Int32} {c : Nat} : Y102 d Q 84 lv (.int x :: .int j :: .ref c :: st) σ ↔ (zK c = 100 ∧ vp_in j (zLn c)) ∧ Y102 d Q 85 lv st (zwI σ c j.toNatClampNeg x) := yX_at (.iastore, 1, 0, 0, 0, 0, []) rfl
theorem g102_85  : Y102 d Q 85 lv st σ ↔ zldR lv 0 (fun x => Y102 d Q 86 lv (.ref x :: st) σ) := yX_at (.aload_n 0, 1, 0, 0, 0, 0, []) rfl
theorem g102_86  : Y102 d Q 86 lv st σ ↔ zdup st (fun r => Y102 d Q 87 lv r σ) := yX_at (.dup, 1, 0, 0, 0, 0, []) rfl
theorem g102_87 {c : Nat} : Y102 d Q 87 lv (.ref c :: st) σ ↔ zK c = 7 ∧ Y102 d Q 90 lv (zfv σ c 19 :: st) σ := yX_at (.getfield 113, 3, 7, 19, 204, 0, []) rfl
theorem g102_90  : Y102 d Q 90 lv st σ ↔ Y102 d Q 91 lv (.int 1 :: st) σ := yX_at (.iconst 1, 1, 0, 0, 0, 0, []) rfl
theorem g102_91 {x y : Int32} : Y102 d Q 91 lv (.int y :: .int x :: st) σ ↔ Y102 d Q 92 lv (.int (x + y) :: st) σ := yX_at (.iadd, 1, 0, 0, 0, 0, []) rfl
theorem g102_92 {x : Int32} {c : Nat} : Y102 d Q 92 lv (.int x :: .ref c :: st) σ ↔ zK c = 7 ∧ Y102 d Q 95 lv st (zwI σ c 19 x) := yX_at (.putfield 113, 3, 7, 19, 204, 0, []) rfl
theorem g102_95  : Y102 d Q 95 lv st σ ↔ Y102 d Q 324 lv st σ := yX_at (.goto 229, 3, 324, 0, 0, 0, []) rfl
theorem g102_98  : Y102 d Q 98 lv st σ ↔ zldJ lv 2 (fun x => Y102 d Q 99 lv (.long x :: st) σ) := yX_at (.lload_n 2, 1, 0, 0, 0, 0, []) rfl
theorem g102_99  : Y102 d Q 99 lv st σ ↔ Y102 d Q 102 lv (.long 1643 :: st) σ := yX_at (.ldc2_w 120, 3, 0, 0, 207, 1643, []) rfl
theorem g102_102 {x y : Int64} : Y102 d Q 102 lv (.long y :: .long x :: st) σ ↔ Y102 d Q 103 lv (.int (lg_cmp x y) :: st) σ := yX_at (.lcmp, 1, 0, 0, 0, 0, []) rfl
theorem g102_103 {x : Int32} : Y102 d Q 103 lv (.int x :: st) σ ↔ (¬ x = 0 → Y102 d Q 231 lv st σ) ∧ (x = 0 → Y102 d Q 106 lv st σ) := yX_at (.ifCond .ne 128, 3, 231, 0, 0, 0, []) rfl
theorem g102_106  : Y102 d Q 106 lv st σ ↔ zldR lv 0 (fun x => Y102 d Q 107 lv (.ref x :: st) σ) := yX_at (.aload_n 0, 1, 0, 0, 0, 0, []) rfl
theorem g102_107 {c : Nat} : Y102 d Q 107 lv (.ref c :: st) σ ↔ zK c = 7 ∧ Y102 d Q 110 lv (zfv σ c 21 :: st) σ := yX_at (.getfield 122, 3, 7, 21, 208, 0, []) rfl
theorem g102_110  : Y102 d Q 110 lv st σ ↔ Y102 d Q 112 lv (.int 8 :: st) σ := yX_at (.bipush 8, 2, 0, 0, 0, 0, []) rfl
theorem g102_112 {x y : Int32} : Y102 d Q 112 lv (.int y :: .int x :: st) σ ↔ (y ≤ x → Y102 d Q 231 lv st σ) ∧ (¬ y ≤ x → Y102 d Q 115 lv st σ) := yX_at (.if_icmp .ge 119, 3, 231, 0, 0, 0, []) rfl
theorem g102_115  : Y102 d Q 115 lv st σ ↔ Y102 d Q 116 lv (.int 5 :: st) σ := yX_at (.iconst 5, 1, 0, 0, 0, 0, []) rfl
theorem g102_116  : Y102 d Q 116 lv st σ ↔ zldR lv 0 (fun x => Y102 d Q 117 lv (.ref x :: st) σ) := yX_at (.aload_n 0, 1, 0, 0, 0, 0, []) rfl
theorem g102_117 {c : Nat} : Y102 d Q 117 lv (.ref c :: st) σ ↔ zK c = 7 ∧ Y102 d Q 120 lv (zfv σ c 21 :: st) σ := yX_at (.getfield 122, 3, 7, 21, 208, 0, []) rfl
theorem g102_120 {x y : Int32} : Y102 d Q 120 lv (.int y :: .int x :: st) σ ↔ Y102 d Q 121 lv (.int (x * y) :: st) σ := yX_at (.imul, 1, 0, 0, 0, 0, []) rfl
theorem g102_121 {x : Int32} : Y102 d Q 121 lv (.int x :: st) σ ↔ Y102 d Q 123 (zs1 4 (.int x) lv) st σ := yX_at (.istore 4, 2, 0, 0, 0, 0, []) rfl
theorem g102_123  : Y102 d Q 123 lv st σ ↔ zldR lv 0 (fun x => Y102 d Q 124 lv (.ref x :: st) σ) := yX_at (.aload_n 0, 1, 0, 0, 0, 0, []) rfl
theorem g102_124 {c : Nat} : Y102 d Q 124 lv (.ref c :: st) σ ↔ zK c = 7 ∧ Y102 d Q 127 lv (zfv σ c 22 :: st) σ := yX_at (.getfield 47, 3, 7, 22, 209, 0, []) rfl
theorem g102_127  : Y102 d Q 127 lv st σ ↔ zldI lv 4 (fun x => Y102 d Q 129 lv (.int x :: st) σ) := yX_at (.iload 4, 2, 0, 0, 0, 0, []) rfl
theorem g102_129  : Y102 d Q 129 lv st σ ↔ zldR lv 0 (fun x => Y102 d Q 130 lv (.ref x :: st) σ) := yX_at (.aload_n 0, 1, 0, 0, 0, 0, []) rfl
theorem g102_130  : Y102 d Q 130 lv st σ ↔ Y102 d Q 131 lv (.int 0 :: st) σ := yX_at (.iconst 0, 1, 0, 0, 0, 0, []) rfl
theorem g102_131  : Y102 d Q 131 lv st σ ↔ zldR lv 0 (fun x => Y102 d Q 132 lv (.ref x :: st) σ) := yX_at (.aload_n 0, 1, 0, 0, 0, 0, []) rfl
theorem g102_132 {c : Nat} : Y102 d Q 132 lv (.ref c :: st) σ ↔ zK c = 7 ∧ Y102 d Q 135 lv (zfv σ c 19 :: st) σ := yX_at (.getfield 113, 3, 7, 19, 204, 0, []) rfl
theorem g102_135  : Y102 d Q 135 lv st σ ↔ Y102 d Q 136 lv (.int 1 :: st) σ := yX_at (.iconst 1, 1, 0, 0, 0, 0, []) rfl
theorem g102_136 {x y : Int32} : Y102 d Q 136 lv (.int y :: .int x :: st) σ ↔ Y102 d Q 137 lv (.int (x - y) :: st) σ := yX_at (.isub, 1, 0, 0, 0, 0, []) rfl
theorem g102_137  : Y102 d Q 137 lv st σ ↔ Y102 d Q 138 lv (.int (-1) :: st) σ := by
  rw [show (-1 : Int32) = Int32.ofInt (-1) from by decide]
  exact yX_at (.iconst (-1), 1, 0, 0, 0, 0, []) rfl
theorem g102_138 {v0 v1 v2 : Value} {c : Nat} : Y102 d Q 138 lv (v2 :: v1 :: v0 :: .ref c :: st) σ ↔ (zrcv 7 c ∧ zrm st) ∧ ∃ rv σ', yE d 100 [.ref c, v0, v1, v2] σ rv σ' ∧ Y102 d Q 141 lv (rv.toList ++ st) σ' := yX_at (.invokevirtual 116, 3, 100, 3, 206, 0, []) rfl
theorem g102_141 {x j : Int32} {c : Nat} : Y102 d Q 141 lv (.int x :: .int j :: .ref c :: st) σ ↔ (zK c = 100 ∧ vp_in j (zLn c)) ∧ Y102 d Q 142 lv st (zwI σ c j.toNatClampNeg x) := yX_at (.iastore, 1, 0, 0, 0, 0, []) rfl
theorem g102_142  : Y102 d Q 142 lv st σ ↔ zldR lv 0 (fun x => Y102 d Q 143 lv (.ref x :: st) σ) := yX_at (.aload_n 0, 1, 0, 0, 0, 0, []) rfl
theorem g102_143 {c : Nat} : Y102 d Q 143 lv (.ref c :: st) σ ↔ zK c = 7 ∧ Y102 d Q 146 lv (zfv σ c 22 :: st) σ := yX_at (.getfield 47, 3, 7, 22, 209, 0, []) rfl
theorem g102_146  : Y102 d Q 146 lv st σ ↔ zldI lv 4 (fun x => Y102 d Q 148 lv (.int x :: st) σ) := yX_at (.iload 4, 2, 0, 0, 0, 0, []) rfl
theorem g102_148  : Y102 d Q 148 lv st σ ↔ Y102 d Q 149 lv (.int 1 :: st) σ := yX_at (.iconst 1, 1, 0, 0, 0, 0, []) rfl
theorem g102_149 {x y : Int32} : Y102 d Q 149 lv (.int y :: .int x :: st) σ ↔ Y102 d Q 150 lv (.int (x + y) :: st) σ := yX_at (.iadd, 1, 0, 0, 0, 0, []) rfl
theorem g102_150  : Y102 d Q 150 lv st σ ↔ zldR lv 0 (fun x => Y102 d Q 151 lv (.ref x :: st) σ) := yX_at (.aload_n 0, 1, 0, 0, 0, 0, []) rfl
theorem g102_151  : Y102 d Q 151 lv st σ ↔ Y102 d Q 152 lv (.int 0 :: st) σ := yX_at (.iconst 0, 1, 0, 0, 0, 0, []) rfl
theorem g102_152  : Y102 d Q 152 lv st σ ↔ Y102 d Q 154 lv (.int 9 :: st) σ := yX_at (.bipush 9, 2, 0, 0, 0, 0, []) rfl
theorem g102_154  : Y102 d Q 154 lv st σ ↔ Y102 d Q 155 lv (.int (-1) :: st) σ := by
  rw [show (-1 : Int32) = Int32.ofInt (-1) from by decide]
  exact yX_at (.iconst (-1), 1, 0, 0, 0, 0, []) rfl
theorem g102_155 {v0 v1 v2 : Value} {c : Nat} : Y102 d Q 155 lv (v2 :: v1 :: v0 :: .ref c :: st) σ ↔ (zrcv 7 c ∧ zrm st) ∧ ∃ rv σ', yE d 100 [.ref c, v0, v1, v2] σ rv σ' ∧ Y102 d Q 158 lv (rv.toList ++ st) σ' := yX_at (.invokevirtual 116, 3, 100, 3, 206, 0, []) rfl
theorem g102_158 {x j : Int32} {c : Nat} : Y102 d Q 158 lv (.int x :: .int j :: .ref c :: st) σ ↔ (zK c = 100 ∧ vp_in j (zLn c)) ∧ Y102 d Q 159 lv st (zwI σ c j.toNatClampNeg x) := yX_at (.iastore, 1, 0, 0, 0, 0, []) rfl
theorem g102_159  : Y102 d Q 159 lv st σ ↔ zldR lv 0 (fun x => Y102 d Q 160 lv (.ref x :: st) σ) := yX_at (.aload_n 0, 1, 0, 0, 0, 0, []) rfl
theorem g102_160 {c : Nat} : Y102 d Q 160 lv (.ref c :: st) σ ↔ zK c = 7 ∧ Y102 d Q 163 lv (zfv σ c 22 :: st) σ := yX_at (.getfield 47, 3, 7, 22, 209, 0, []) rfl
theorem g102_163  : Y102 d Q 163 lv st σ ↔ zldI lv 4 (fun x => Y102 d Q 165 lv (.int x :: st) σ) := yX_at (.iload 4, 2, 0, 0, 0, 0, []) rfl
theorem g102_165  : Y102 d Q 165 lv st σ ↔ Y102 d Q 166 lv (.int 2 :: st) σ := yX_at (.iconst 2, 1, 0, 0, 0, 0, []) rfl
theorem g102_166 {x y : Int32} : Y102 d Q 166 lv (.int y :: .int x :: st) σ ↔ Y102 d Q 167 lv (.int (x + y) :: st) σ := yX_at (.iadd, 1, 0, 0, 0, 0, []) rfl
theorem g102_167  : Y102 d Q 167 lv st σ ↔ zldR lv 0 (fun x => Y102 d Q 168 lv (.ref x :: st) σ) := yX_at (.aload_n 0, 1, 0, 0, 0, 0, []) rfl
theorem g102_168  : Y102 d Q 168 lv st σ ↔ Y102 d Q 169 lv (.int 1 :: st) σ := yX_at (.iconst 1, 1, 0, 0, 0, 0, []) rfl
theorem g102_169  : Y102 d Q 169 lv st σ ↔ Y102 d Q 171 lv (.int 9 :: st) σ := yX_at (.bipush 9, 2, 0, 0, 0, 0, []) rfl
theorem g102_171  : Y102 d Q 171 lv st σ ↔ Y102 d Q 172 lv (.int (-1) :: st) σ := by
  rw [show (-1 : Int32) = Int32.ofInt (-1) from by decide]
  exact yX_at (.iconst (-1), 1, 0, 0, 0, 0, []) rfl
theorem g102_172 {v0 v1 v2 : Value} {c : Nat} : Y102 d Q 172 lv (v2 :: v1 :: v0 :: .ref c :: st) σ ↔ (zrcv 7 c ∧ zrm st) ∧ ∃ rv σ', yE d 100 [.ref c, v0, v1, v2] σ rv σ' ∧ Y102 d Q 175 lv (rv.toList ++ st) σ' := yX_at (.invokevirtual 116, 3, 100, 3, 206, 0, []) rfl
theorem g102_175 {x j : Int32} {c : Nat} : Y102 d Q 175 lv (.int x :: .int j :: .ref c :: st) σ ↔ (zK c = 100 ∧ vp_in j (zLn c)) ∧ Y102 d Q 176 lv st (zwI σ c j.toNatClampNeg x) := yX_at (.iastore, 1, 0, 0, 0, 0, []) rfl
theorem g102_176  : Y102 d Q 176 lv st σ ↔ zldR lv 0 (fun x => Y102 d Q 177 lv (.ref x :: st) σ) := yX_at (.aload_n 0, 1, 0, 0, 0, 0, []) rfl
theorem g102_177 {c : Nat} : Y102 d Q 177 lv (.ref c :: st) σ ↔ zK c = 7 ∧ Y102 d Q 180 lv (zfv σ c 22 :: st) σ := yX_at (.getfield 47, 3, 7, 22, 209, 0, []) rfl
theorem g102_180  : Y102 d Q 180 lv st σ ↔ zldI lv 4 (fun x => Y102 d Q 182 lv (.int x :: st) σ) := yX_at (.iload 4, 2, 0, 0, 0, 0, []) rfl
set_option maxRecDepth 20000 in
theorem g102_182  : Y102 d Q 182 lv st σ ↔ Y102 d Q 183 lv (.int 3 :: st) σ := yX_at (.iconst 3, 1, 0, 0, 0, 0, []) rfl
set_option maxRecDepth 20000 in
theorem g102_183 {x y : Int32} : Y102 d Q 183 lv (.int y :: .int x :: st) σ ↔ Y102 d Q 184 lv (.int (x + y) :: st) σ := yX_at (.iadd, 1, 0, 0, 0, 0, []) rfl
set_option maxRecDepth 20000 in
theorem g102_184  : Y102 d Q 184 lv st σ ↔ zldR lv 0 (fun x => Y102 d Q 185 lv (.ref x :: st) σ) := yX_at (.aload_n 0, 1, 0, 0, 0, 0, []) rfl
set_option maxRecDepth 20000 in
theorem g102_185  : Y102 d Q 185 lv st σ ↔ Y102 d Q 186 lv (.int 1 :: st) σ := yX_at (.iconst 1, 1, 0, 0, 0, 0, []) rfl
set_option maxRecDepth 20000 in
theorem g102_186  : Y102 d Q 186 lv st σ ↔ Y102 d Q 188 lv (.int 99 :: st) σ := yX_at (.bipush 99, 2, 0, 0, 0, 0, []) rfl
set_option maxRecDepth 20000 in
theorem g102_188  : Y102 d Q 188 lv st σ ↔ Y102 d Q 189 lv (.int (-1) :: st) σ := by
  rw [show (-1 : Int32) = Int32.ofInt (-1) from by decide]
  exact yX_at (.iconst (-1), 1, 0, 0, 0, 0, []) rfl
set_option maxRecDepth 20000 in
theorem g102_189 {v0 v1 v2 : Value} {c : Nat} : Y102 d Q 189 lv (v2 :: v1 :: v0 :: .ref c :: st) σ ↔ (zrcv 7 c ∧ zrm st) ∧ ∃ rv σ', yE d 100 [.ref c, v0, v1, v2] σ rv σ' ∧ Y102 d Q 192 lv (rv.toList ++ st) σ' := yX_at (.invokevirtual 116, 3, 100, 3, 206, 0, []) rfl
set_option maxRecDepth 20000 in
theorem g102_192 {x j : Int32} {c : Nat} : Y102 d Q 192 lv (.int x :: .int j :: .ref c :: st) σ ↔ (zK c = 100 ∧ vp_in j (zLn c)) ∧ Y102 d Q 193 lv st (zwI σ c j.toNatClampNeg x) := yX_at (.iastore, 1, 0, 0, 0, 0, []) rfl
set_option maxRecDepth 20000 in
theorem g102_193  : Y102 d Q 193 lv st σ ↔ zldR lv 0 (fun x => Y102 d Q 194 lv (.ref x :: st) σ) := yX_at (.aload_n 0, 1, 0, 0, 0, 0, []) rfl
set_option maxRecDepth 20000 in
theorem g102_194 {c : Nat} : Y102 d Q 194 lv (.ref c :: st) σ ↔ zK c = 7 ∧ Y102 d Q 197 lv (zfv σ c 22 :: st) σ := yX_at (.getfield 47, 3, 7, 22, 209, 0, []) rfl
set_option maxRecDepth 20000 in
theorem g102_197  : Y102 d Q 197 lv st σ ↔ zldI lv 4 (fun x => Y102 d Q 199 lv (.int x :: st) σ) := yX_at (.iload 4, 2, 0, 0, 0, 0, []) rfl
set_option maxRecDepth 20000 in
theorem g102_199  : Y102 d Q 199 lv st σ ↔ Y102 d Q 200 lv (.int 4 :: st) σ := yX_at (.iconst 4, 1, 0, 0, 0, 0, []) rfl
set_option maxRecDepth 20000 in
theorem g102_200 {x y : Int32} : Y102 d Q 200 lv (.int y :: .int x :: st) σ ↔ Y102 d Q 201 lv (.int (x + y) :: st) σ := yX_at (.iadd, 1, 0, 0, 0, 0, []) rfl
set_option maxRecDepth 20000 in
theorem g102_201  : Y102 d Q 201 lv st σ ↔ zldR lv 0 (fun x => Y102 d Q 202 lv (.ref x :: st) σ) := yX_at (.aload_n 0, 1, 0, 0, 0, 0, []) rfl
set_option maxRecDepth 20000 in
theorem g102_202  : Y102 d Q 202 lv st σ ↔ zldR lv 0 (fun x => Y102 d Q 203 lv (.ref x :: st) σ) := yX_at (.aload_n 0, 1, 0, 0, 0, 0, []) rfl
set_option maxRecDepth 20000 in
theorem g102_203 {c : Nat} : Y102 d Q 203 lv (.ref c :: st) σ ↔ zK c = 7 ∧ Y102 d Q 206 lv (zfv σ c 22 :: st) σ := yX_at (.getfield 47, 3, 7, 22, 209, 0, []) rfl
set_option maxRecDepth 20000 in
theorem g102_206  : Y102 d Q 206 lv st σ ↔ zldI lv 4 (fun x => Y102 d Q 208 lv (.int x :: st) σ) := yX_at (.iload 4, 2, 0, 0, 0, 0, []) rfl
set_option maxRecDepth 20000 in
theorem g102_208  : Y102 d Q 208 lv st σ ↔ Y102 d Q 209 lv (.int 1 :: st) σ := yX_at (.iconst 1, 1, 0, 0, 0, 0, []) rfl
set_option maxRecDepth 20000 in
theorem g102_209 {x y : Int32} : Y102 d Q 209 lv (.int y :: .int x :: st) σ ↔ Y102 d Q 210 lv (.int (x + y) :: st) σ := yX_at (.iadd, 1, 0, 0, 0, 0, []) rfl
set_option maxRecDepth 20000 in
theorem g102_210 {j : Int32} {c : Nat} : Y102 d Q 210 lv (.int j :: .ref c :: st) σ ↔ (zK c = 100 ∧ vp_in j (zLn c)) ∧ Y102 d Q 211 lv (.int (σ.1 c j.toNatClampNeg) :: st) σ := yX_at (.iaload, 1, 0, 0, 0, 0, []) rfl
set_option maxRecDepth 20000 in
theorem g102_211  : Y102 d Q 211 lv st σ ↔ Y102 d Q 213 lv (.int 9 :: st) σ := yX_at (.bipush 9, 2, 0, 0, 0, 0, []) rfl
set_option maxRecDepth 20000 in
theorem g102_213  : Y102 d Q 213 lv st σ ↔ Y102 d Q 214 lv (.int (-1) :: st) σ := by
  rw [show (-1 : Int32) = Int32.ofInt (-1) from by decide]
  exact yX_at (.iconst (-1), 1, 0, 0, 0, 0, []) rfl
set_option maxRecDepth 20000 in
theorem g102_214 {v0 v1 v2 : Value} {c : Nat} : Y102 d Q 214 lv (v2 :: v1 :: v0 :: .ref c :: st) σ ↔ (zrcv 7 c ∧ zrm st) ∧ ∃ rv σ', yE d 100 [.ref c, v0, v1, v2] σ rv σ' ∧ Y102 d Q 217 lv (rv.toList ++ st) σ' := yX_at (.invokevirtual 116, 3, 100, 3, 206, 0, []) rfl
set_option maxRecDepth 20000 in
theorem g102_217 {x j : Int32} {c : Nat} : Y102 d Q 217 lv (.int x :: .int j :: .ref c :: st) σ ↔ (zK c = 100 ∧ vp_in j (zLn c)) ∧ Y102 d Q 218 lv st (zwI σ c j.toNatClampNeg x) := yX_at (.iastore, 1, 0, 0, 0, 0, []) rfl
set_option maxRecDepth 20000 in
theorem g102_218  : Y102 d Q 218 lv st σ ↔ zldR lv 0 (fun x => Y102 d Q 219 lv (.ref x :: st) σ) := yX_at (.aload_n 0, 1, 0, 0, 0, 0, []) rfl
set_option maxRecDepth 20000 in
theorem g102_219  : Y102 d Q 219 lv st σ ↔ zdup st (fun r => Y102 d Q 220 lv r σ) := yX_at (.dup, 1, 0, 0, 0, 0, []) rfl
set_option maxRecDepth 20000 in
theorem g102_220 {c : Nat} : Y102 d Q 220 lv (.ref c :: st) σ ↔ zK c = 7 ∧ Y102 d Q 223 lv (zfv σ c 21 :: st) σ := yX_at (.getfield 122, 3, 7, 21, 208, 0, []) rfl
set_option maxRecDepth 20000 in
theorem g102_223  : Y102 d Q 223 lv st σ ↔ Y102 d Q 224 lv (.int 1 :: st) σ := yX_at (.iconst 1, 1, 0, 0, 0, 0, []) rfl
set_option maxRecDepth 20000 in
theorem g102_224 {x y : Int32} : Y102 d Q 224 lv (.int y :: .int x :: st) σ ↔ Y102 d Q 225 lv (.int (x + y) :: st) σ := yX_at (.iadd, 1, 0, 0, 0, 0, []) rfl
set_option maxRecDepth 20000 in
theorem g102_225 {x : Int32} {c : Nat} : Y102 d Q 225 lv (.int x :: .ref c :: st) σ ↔ zK c = 7 ∧ Y102 d Q 228 lv st (zwI σ c 21 x) := yX_at (.putfield 122, 3, 7, 21, 208, 0, []) rfl
set_option maxRecDepth 20000 in
theorem g102_228  : Y102 d Q 228 lv st σ ↔ Y102 d Q 324 lv st σ := yX_at (.goto 96, 3, 324, 0, 0, 0, []) rfl
set_option maxRecDepth 20000 in
theorem g102_231  : Y102 d Q 231 lv st σ ↔ zldJ lv 2 (fun x => Y102 d Q 232 lv (.long x :: st) σ) := yX_at (.lload_n 2, 1, 0, 0, 0, 0, []) rfl
set_option maxRecDepth 20000 in
theorem g102_232  : Y102 d Q 232 lv st σ ↔ Y102 d Q 235 lv (.long 8435955 :: st) σ := yX_at (.ldc2_w 125, 3, 0, 0, 210, 8435955, []) rfl
set_option maxRecDepth 20000 in
theorem g102_235 {x y : Int64} : Y102 d Q 235 lv (.long y :: .long x :: st) σ ↔ Y102 d Q 236 lv (.int (lg_cmp x y) :: st) σ := yX_at (.lcmp, 1, 0, 0, 0, 0, []) rfl
set_option maxRecDepth 20000 in
theorem g102_236 {x : Int32} : Y102 d Q 236 lv (.int x :: st) σ ↔ (¬ x = 0 → Y102 d Q 319 lv st σ) ∧ (x = 0 → Y102 d Q 239 lv st σ) := yX_at (.ifCond .ne 83, 3, 319, 0, 0, 0, []) rfl
set_option maxRecDepth 20000 in
theorem g102_239  : Y102 d Q 239 lv st σ ↔ zldR lv 0 (fun x => Y102 d Q 240 lv (.ref x :: st) σ) := yX_at (.aload_n 0, 1, 0, 0, 0, 0, []) rfl
set_option maxRecDepth 20000 in
theorem g102_240 {c : Nat} : Y102 d Q 240 lv (.ref c :: st) σ ↔ zK c = 7 ∧ Y102 d Q 243 lv (zfv σ c 23 :: st) σ := yX_at (.getfield 127, 3, 7, 23, 211, 0, []) rfl
set_option maxRecDepth 20000 in
theorem g102_243  : Y102 d Q 243 lv st σ ↔ Y102 d Q 245 lv (.int 8 :: st) σ := yX_at (.bipush 8, 2, 0, 0, 0, 0, []) rfl
set_option maxRecDepth 20000 in
theorem g102_245 {x y : Int32} : Y102 d Q 245 lv (.int y :: .int x :: st) σ ↔ (y ≤ x → Y102 d Q 319 lv st σ) ∧ (¬ y ≤ x → Y102 d Q 248 lv st σ) := yX_at (.if_icmp .ge 74, 3, 319, 0, 0, 0, []) rfl
set_option maxRecDepth 20000 in
theorem g102_248  : Y102 d Q 248 lv st σ ↔ zldR lv 0 (fun x => Y102 d Q 249 lv (.ref x :: st) σ) := yX_at (.aload_n 0, 1, 0, 0, 0, 0, []) rfl
set_option maxRecDepth 20000 in
theorem g102_249 {c : Nat} : Y102 d Q 249 lv (.ref c :: st) σ ↔ zK c = 7 ∧ Y102 d Q 252 lv (zfv σ c 24 :: st) σ := yX_at (.getfield 50, 3, 7, 24, 212, 0, []) rfl
set_option maxRecDepth 20000 in
theorem g102_252  : Y102 d Q 252 lv st σ ↔ Y102 d Q 253 lv (.int 2 :: st) σ := yX_at (.iconst 2, 1, 0, 0, 0, 0, []) rfl
set_option maxRecDepth 20000 in
theorem g102_253  : Y102 d Q 253 lv st σ ↔ zldR lv 0 (fun x => Y102 d Q 254 lv (.ref x :: st) σ) := yX_at (.aload_n 0, 1, 0, 0, 0, 0, []) rfl
set_option maxRecDepth 20000 in
theorem g102_254 {c : Nat} : Y102 d Q 254 lv (.ref c :: st) σ ↔ zK c = 7 ∧ Y102 d Q 257 lv (zfv σ c 23 :: st) σ := yX_at (.getfield 127, 3, 7, 23, 211, 0, []) rfl
set_option maxRecDepth 20000 in
theorem g102_257 {x y : Int32} : Y102 d Q 257 lv (.int y :: .int x :: st) σ ↔ Y102 d Q 258 lv (.int (x * y) :: st) σ := yX_at (.imul, 1, 0, 0, 0, 0, []) rfl
set_option maxRecDepth 20000 in
theorem g102_258  : Y102 d Q 258 lv st σ ↔ zldR lv 0 (fun x => Y102 d Q 259 lv (.ref x :: st) σ) := yX_at (.aload_n 0, 1, 0, 0, 0, 0, []) rfl
set_option maxRecDepth 20000 in
theorem g102_259  : Y102 d Q 259 lv st σ ↔ Y102 d Q 260 lv (.int 0 :: st) σ := yX_at (.iconst 0, 1, 0, 0, 0, 0, []) rfl
set_option maxRecDepth 20000 in
theorem g102_260  : Y102 d Q 260 lv st σ ↔ zldR lv 0 (fun x => Y102 d Q 261 lv (.ref x :: st) σ) := yX_at (.aload_n 0, 1, 0, 0, 0, 0, []) rfl
set_option maxRecDepth 20000 in
theorem g102_261 {c : Nat} : Y102 d Q 261 lv (.ref c :: st) σ ↔ zK c = 7 ∧ Y102 d Q 264 lv (zfv σ c 21 :: st) σ := yX_at (.getfield 122, 3, 7, 21, 208, 0, []) rfl
set_option maxRecDepth 20000 in
theorem g102_264  : Y102 d Q 264 lv st σ ↔ Y102 d Q 265 lv (.int 1 :: st) σ := yX_at (.iconst 1, 1, 0, 0, 0, 0, []) rfl
set_option maxRecDepth 20000 in
theorem g102_265 {x y : Int32} : Y102 d Q 265 lv (.int y :: .int x :: st) σ ↔ Y102 d Q 266 lv (.int (x - y) :: st) σ := yX_at (.isub, 1, 0, 0, 0, 0, []) rfl
set_option maxRecDepth 20000 in
theorem g102_266  : Y102 d Q 266 lv st σ ↔ Y102 d Q 267 lv (.int (-1) :: st) σ := by
  rw [show (-1 : Int32) = Int32.ofInt (-1) from by decide]
  exact yX_at (.iconst (-1), 1, 0, 0, 0, 0, []) rfl
set_option maxRecDepth 20000 in
theorem g102_267 {v0 v1 v2 : Value} {c : Nat} : Y102 d Q 267 lv (v2 :: v1 :: v0 :: .ref c :: st) σ ↔ (zrcv 7 c ∧ zrm st) ∧ ∃ rv σ', yE d 100 [.ref c, v0, v1, v2] σ rv σ' ∧ Y102 d Q 270 lv (rv.toList ++ st) σ' := yX_at (.invokevirtual 116, 3, 100, 3, 206, 0, []) rfl
set_option maxRecDepth 20000 in
theorem g102_270 {x j : Int32} {c : Nat} : Y102 d Q 270 lv (.int x :: .int j :: .ref c :: st) σ ↔ (zK c = 100 ∧ vp_in j (zLn c)) ∧ Y102 d Q 271 lv st (zwI σ c j.toNatClampNeg x) := yX_at (.iastore, 1, 0, 0, 0, 0, []) rfl
set_option maxRecDepth 20000 in
theorem g102_271  : Y102 d Q 271 lv st σ ↔ zldR lv 0 (fun x => Y102 d Q 272 lv (.ref x :: st) σ) := yX_at (.aload_n 0, 1, 0, 0, 0, 0, []) rfl
set_option maxRecDepth 20000 in
theorem g102_272 {c : Nat} : Y102 d Q 272 lv (.ref c :: st) σ ↔ zK c = 7 ∧ Y102 d Q 275 lv (zfv σ c 24 :: st) σ := yX_at (.getfield 50, 3, 7, 24, 212, 0, []) rfl
set_option maxRecDepth 20000 in
theorem g102_275  : Y102 d Q 275 lv st σ ↔ Y102 d Q 276 lv (.int 2 :: st) σ := yX_at (.iconst 2, 1, 0, 0, 0, 0, []) rfl
set_option maxRecDepth 20000 in
theorem g102_276  : Y102 d Q 276 lv st σ ↔ zldR lv 0 (fun x => Y102 d Q 277 lv (.ref x :: st) σ) := yX_at (.aload_n 0, 1, 0, 0, 0, 0, []) rfl
set_option maxRecDepth 20000 in
theorem g102_277 {c : Nat} : Y102 d Q 277 lv (.ref c :: st) σ ↔ zK c = 7 ∧ Y102 d Q 280 lv (zfv σ c 23 :: st) σ := yX_at (.getfield 127, 3, 7, 23, 211, 0, []) rfl
set_option maxRecDepth 20000 in
theorem g102_280 {x y : Int32} : Y102 d Q 280 lv (.int y :: .int x :: st) σ ↔ Y102 d Q 281 lv (.int (x * y) :: st) σ := yX_at (.imul, 1, 0, 0, 0, 0, []) rfl
set_option maxRecDepth 20000 in
theorem g102_281  : Y102 d Q 281 lv st σ ↔ Y102 d Q 282 lv (.int 1 :: st) σ := yX_at (.iconst 1, 1, 0, 0, 0, 0, []) rfl
set_option maxRecDepth 20000 in
theorem g102_282 {x y : Int32} : Y102 d Q 282 lv (.int y :: .int x :: st) σ ↔ Y102 d Q 283 lv (.int (x + y) :: st) σ := yX_at (.iadd, 1, 0, 0, 0, 0, []) rfl
set_option maxRecDepth 20000 in
theorem g102_283  : Y102 d Q 283 lv st σ ↔ zldR lv 0 (fun x => Y102 d Q 284 lv (.ref x :: st) σ) := yX_at (.aload_n 0, 1, 0, 0, 0, 0, []) rfl
set_option maxRecDepth 20000 in
theorem g102_284  : Y102 d Q 284 lv st σ ↔ Y102 d Q 285 lv (.int 0 :: st) σ := yX_at (.iconst 0, 1, 0, 0, 0, 0, []) rfl
set_option maxRecDepth 20000 in
theorem g102_285  : Y102 d Q 285 lv st σ ↔ zldR lv 0 (fun x => Y102 d Q 286 lv (.ref x :: st) σ) := yX_at (.aload_n 0, 1, 0, 0, 0, 0, []) rfl
set_option maxRecDepth 20000 in
theorem g102_286 {c : Nat} : Y102 d Q 286 lv (.ref c :: st) σ ↔ zK c = 7 ∧ Y102 d Q 289 lv (zfv σ c 21 :: st) σ := yX_at (.getfield 122, 3, 7, 21, 208, 0, []) rfl
set_option maxRecDepth 20000 in
theorem g102_289  : Y102 d Q 289 lv st σ ↔ Y102 d Q 290 lv (.int 1 :: st) σ := yX_at (.iconst 1, 1, 0, 0, 0, 0, []) rfl
set_option maxRecDepth 20000 in
theorem g102_290 {x y : Int32} : Y102 d Q 290 lv (.int y :: .int x :: st) σ ↔ Y102 d Q 291 lv (.int (x - y) :: st) σ := yX_at (.isub, 1, 0, 0, 0, 0, []) rfl
set_option maxRecDepth 20000 in
theorem g102_291  : Y102 d Q 291 lv st σ ↔ zldR lv 0 (fun x => Y102 d Q 292 lv (.ref x :: st) σ) := yX_at (.aload_n 0, 1, 0, 0, 0, 0, []) rfl
set_option maxRecDepth 20000 in
theorem g102_292 {c : Nat} : Y102 d Q 292 lv (.ref c :: st) σ ↔ zK c = 7 ∧ Y102 d Q 295 lv (zfv σ c 24 :: st) σ := yX_at (.getfield 50, 3, 7, 24, 212, 0, []) rfl
set_option maxRecDepth 20000 in
theorem g102_295  : Y102 d Q 295 lv st σ ↔ Y102 d Q 296 lv (.int 2 :: st) σ := yX_at (.iconst 2, 1, 0, 0, 0, 0, []) rfl
set_option maxRecDepth 20000 in
theorem g102_296  : Y102 d Q 296 lv st σ ↔ zldR lv 0 (fun x => Y102 d Q 297 lv (.ref x :: st) σ) := yX_at (.aload_n 0, 1, 0, 0, 0, 0, []) rfl
set_option maxRecDepth 20000 in
theorem g102_297 {c : Nat} : Y102 d Q 297 lv (.ref c :: st) σ ↔ zK c = 7 ∧ Y102 d Q 300 lv (zfv σ c 23 :: st) σ := yX_at (.getfield 127, 3, 7, 23, 211, 0, []) rfl
set_option maxRecDepth 20000 in
theorem g102_300 {x y : Int32} : Y102 d Q 300 lv (.int y :: .int x :: st) σ ↔ Y102 d Q 301 lv (.int (x * y) :: st) σ := yX_at (.imul, 1, 0, 0, 0, 0, []) rfl
set_option maxRecDepth 20000 in
theorem g102_301 {j : Int32} {c : Nat} : Y102 d Q 301 lv (.int j :: .ref c :: st) σ ↔ (zK c = 100 ∧ vp_in j (zLn c)) ∧ Y102 d Q 302 lv (.int (σ.1 c j.toNatClampNeg) :: st) σ := yX_at (.iaload, 1, 0, 0, 0, 0, []) rfl
set_option maxRecDepth 20000 in
theorem g102_302 {v0 v1 v2 : Value} {c : Nat} : Y102 d Q 302 lv (v2 :: v1 :: v0 :: .ref c :: st) σ ↔ (zrcv 7 c ∧ zrm st) ∧ ∃ rv σ', yE d 100 [.ref c, v0, v1, v2] σ rv σ' ∧ Y102 d Q 305 lv (rv.toList ++ st) σ' := yX_at (.invokevirtual 116, 3, 100, 3, 206, 0, []) rfl
set_option maxRecDepth 20000 in
theorem g102_305 {x j : Int32} {c : Nat} : Y102 d Q 305 lv (.int x :: .int j :: .ref c :: st) σ ↔ (zK c = 100 ∧ vp_in j (zLn c)) ∧ Y102 d Q 306 lv st (zwI σ c j.toNatClampNeg x) := yX_at (.iastore, 1, 0, 0, 0, 0, []) rfl
set_option maxRecDepth 20000 in
theorem g102_306  : Y102 d Q 306 lv st σ ↔ zldR lv 0 (fun x => Y102 d Q 307 lv (.ref x :: st) σ) := yX_at (.aload_n 0, 1, 0, 0, 0, 0, []) rfl
set_option maxRecDepth 20000 in
theorem g102_307  : Y102 d Q 307 lv st σ ↔ zdup st (fun r => Y102 d Q 308 lv r σ) := yX_at (.dup, 1, 0, 0, 0, 0, []) rfl
set_option maxRecDepth 20000 in
theorem g102_308 {c : Nat} : Y102 d Q 308 lv (.ref c :: st) σ ↔ zK c = 7 ∧ Y102 d Q 311 lv (zfv σ c 23 :: st) σ := yX_at (.getfield 127, 3, 7, 23, 211, 0, []) rfl
set_option maxRecDepth 20000 in
theorem g102_311  : Y102 d Q 311 lv st σ ↔ Y102 d Q 312 lv (.int 1 :: st) σ := yX_at (.iconst 1, 1, 0, 0, 0, 0, []) rfl
set_option maxRecDepth 20000 in
theorem g102_312 {x y : Int32} : Y102 d Q 312 lv (.int y :: .int x :: st) σ ↔ Y102 d Q 313 lv (.int (x + y) :: st) σ := yX_at (.iadd, 1, 0, 0, 0, 0, []) rfl
set_option maxRecDepth 20000 in
theorem g102_313 {x : Int32} {c : Nat} : Y102 d Q 313 lv (.int x :: .ref c :: st) σ ↔ zK c = 7 ∧ Y102 d Q 316 lv st (zwI σ c 23 x) := yX_at (.putfield 127, 3, 7, 23, 211, 0, []) rfl
set_option maxRecDepth 20000 in
theorem g102_316  : Y102 d Q 316 lv st σ ↔ Y102 d Q 324 lv st σ := yX_at (.goto 8, 3, 324, 0, 0, 0, []) rfl
set_option maxRecDepth 20000 in
theorem g102_319  : Y102 d Q 319 lv st σ ↔ zldR lv 0 (fun x => Y102 d Q 320 lv (.ref x :: st) σ) := yX_at (.aload_n 0, 1, 0, 0, 0, 0, []) rfl
set_option maxRecDepth 20000 in
theorem g102_320  : Y102 d Q 320 lv st σ ↔ zldI lv 1 (fun x => Y102 d Q 321 lv (.int x :: st) σ) := yX_at (.iload_n 1, 1, 0, 0, 0, 0, []) rfl
set_option maxRecDepth 20000 in
theorem g102_321 {x : Int32} {c : Nat} : Y102 d Q 321 lv (.int x :: .ref c :: st) σ ↔ zK c = 7 ∧ Y102 d Q 324 lv st (zwI σ c 18 x) := yX_at (.putfield 84, 3, 7, 18, 193, 0, []) rfl
set_option maxRecDepth 20000 in
theorem g102_324  : Y102 d Q 324 lv st σ ↔ zldR lv 0 (fun x => Y102 d Q 325 lv (.ref x :: st) σ) := yX_at (.aload_n 0, 1, 0, 0, 0, 0, []) rfl
set_option maxRecDepth 20000 in
theorem g102_325 {c : Nat} : Y102 d Q 325 lv (.ref c :: st) σ ↔ zK c = 7 ∧ Y102 d Q 328 lv (zfv σ c 18 :: st) σ := yX_at (.getfield 84, 3, 7, 18, 193, 0, []) rfl
set_option maxRecDepth 20000 in
theorem g102_328 {x : Int32} : Y102 d Q 328 lv (.int x :: st) σ ↔ (0 ≤ x → Y102 d Q 360 lv st σ) ∧ (¬ 0 ≤ x → Y102 d Q 331 lv st σ) := yX_at (.ifCond .ge 32, 3, 360, 0, 0, 0, []) rfl
set_option maxRecDepth 20000 in
theorem g102_331  : Y102 d Q 331 lv st σ ↔ zldR lv 0 (fun x => Y102 d Q 332 lv (.ref x :: st) σ) := yX_at (.aload_n 0, 1, 0, 0, 0, 0, []) rfl
set_option maxRecDepth 20000 in
theorem g102_332 {c : Nat} : Y102 d Q 332 lv (.ref c :: st) σ ↔ (zrcv 7 c ∧ zrm st) ∧ ∃ rv σ', yE d 99 [.ref c] σ rv σ' ∧ Y102 d Q 335 lv (rv.toList ++ st) σ' := yX_at (.invokevirtual 87, 3, 99, 0, 194, 0, []) rfl
set_option maxRecDepth 20000 in
theorem g102_335 {x : Int32} : Y102 d Q 335 lv (.int x :: st) σ ↔ (¬ x = 0 → Y102 d Q 352 lv st σ) ∧ (x = 0 → Y102 d Q 338 lv st σ) := yX_at (.ifCond .ne 17, 3, 352, 0, 0, 0, []) rfl
set_option maxRecDepth 20000 in
theorem g102_338  : Y102 d Q 338 lv st σ ↔ zldR lv 0 (fun x => Y102 d Q 339 lv (.ref x :: st) σ) := yX_at (.aload_n 0, 1, 0, 0, 0, 0, []) rfl
set_option maxRecDepth 20000 in
theorem g102_339 {c : Nat} : Y102 d Q 339 lv (.ref c :: st) σ ↔ zK c = 7 ∧ Y102 d Q 342 lv (zfv σ c 14 :: st) σ := yX_at (.getfield 41, 3, 7, 14, 190, 0, []) rfl
set_option maxRecDepth 20000 in
theorem g102_342  : Y102 d Q 342 lv st σ ↔ zldR lv 0 (fun x => Y102 d Q 343 lv (.ref x :: st) σ) := yX_at (.aload_n 0, 1, 0, 0, 0, 0, []) rfl
set_option maxRecDepth 20000 in
theorem g102_343 {c : Nat} : Y102 d Q 343 lv (.ref c :: st) σ ↔ zK c = 7 ∧ Y102 d Q 346 lv (zfv σ c 17 :: st) σ := yX_at (.getfield 81, 3, 7, 17, 192, 0, []) rfl
set_option maxRecDepth 20000 in
theorem g102_346 {j : Int32} {c : Nat} : Y102 d Q 346 lv (.int j :: .ref c :: st) σ ↔ (zK c = 100 ∧ vp_in j (zLn c)) ∧ Y102 d Q 347 lv (.int (σ.1 c j.toNatClampNeg) :: st) σ := yX_at (.iaload, 1, 0, 0, 0, 0, []) rfl
set_option maxRecDepth 20000 in
theorem g102_347  : Y102 d Q 347 lv st σ ↔ Y102 d Q 349 lv (.int 59 :: st) σ := yX_at (.bipush 59, 2, 0, 0, 0, 0, []) rfl
set_option maxRecDepth 20000 in
theorem g102_349 {x y : Int32} : Y102 d Q 349 lv (.int y :: .int x :: st) σ ↔ (x = y → Y102 d Q 360 lv st σ) ∧ (¬ x = y → Y102 d Q 352 lv st σ) := yX_at (.if_icmp .eq 11, 3, 360, 0, 0, 0, []) rfl
set_option maxRecDepth 20000 in
theorem g102_352  : Y102 d Q 352 lv st σ ↔ zldR lv 0 (fun x => Y102 d Q 353 lv (.ref x :: st) σ) := yX_at (.aload_n 0, 1, 0, 0, 0, 0, []) rfl
set_option maxRecDepth 20000 in
theorem g102_353  : Y102 d Q 353 lv st σ ↔ zldR lv 0 (fun x => Y102 d Q 354 lv (.ref x :: st) σ) := yX_at (.aload_n 0, 1, 0, 0, 0, 0, []) rfl
set_option maxRecDepth 20000 in
theorem g102_354 {c : Nat} : Y102 d Q 354 lv (.ref c :: st) σ ↔ zK c = 7 ∧ Y102 d Q 357 lv (zfv σ c 17 :: st) σ := yX_at (.getfield 81, 3, 7, 17, 192, 0, []) rfl
set_option maxRecDepth 20000 in
theorem g102_357 {x : Int32} {c : Nat} : Y102 d Q 357 lv (.int x :: .ref c :: st) σ ↔ zK c = 7 ∧ Y102 d Q 360 lv st (zwI σ c 18 x) := yX_at (.putfield 84, 3, 7, 18, 193, 0, []) rfl
set_option maxRecDepth 20000 in
theorem g102_360  : Y102 d Q 360 lv st σ ↔ zldR lv 0 (fun x => Y102 d Q 361 lv (.ref x :: st) σ) := yX_at (.aload_n 0, 1, 0, 0, 0, 0, []) rfl
set_option maxRecDepth 20000 in
theorem g102_361  : Y102 d Q 361 lv st σ ↔ zdup st (fun r => Y102 d Q 362 lv r σ) := yX_at (.dup, 1, 0, 0, 0, 0, []) rfl
set_option maxRecDepth 20000 in
theorem g102_362 {c : Nat} : Y102 d Q 362 lv (.ref c :: st) σ ↔ zK c = 7 ∧ Y102 d Q 365 lv (zfv σ c 17 :: st) σ := yX_at (.getfield 81, 3, 7, 17, 192, 0, []) rfl
set_option maxRecDepth 20000 in
theorem g102_365  : Y102 d Q 365 lv st σ ↔ Y102 d Q 366 lv (.int 1 :: st) σ := yX_at (.iconst 1, 1, 0, 0, 0, 0, []) rfl
set_option maxRecDepth 20000 in
theorem g102_366 {x y : Int32} : Y102 d Q 366 lv (.int y :: .int x :: st) σ ↔ Y102 d Q 367 lv (.int (x + y) :: st) σ := yX_at (.iadd, 1, 0, 0, 0, 0, []) rfl
set_option maxRecDepth 20000 in
theorem g102_367 {x : Int32} {c : Nat} : Y102 d Q 367 lv (.int x :: .ref c :: st) σ ↔ zK c = 7 ∧ Y102 d Q 370 lv st (zwI σ c 17 x) := yX_at (.putfield 81, 3, 7, 17, 192, 0, []) rfl
set_option maxRecDepth 20000 in
theorem g102_370  : Y102 d Q 370 lv [] σ ↔ Q none σ := yX_at (.return_, 1, 0, 0, 0, 0, []) rfl
end G102
