def Y137 (d : Nat) (Q : Option Value → zSt → Prop) (pc : Nat) (lv : zLv) (st : List Value) (σ : zSt) : Prop := yX (yE d) ySn zt137 Q pc lv st σ
theorem C137 {d : Nat} {as : List Value} {σ : zSt} {P : Option Value → zSt → Prop} (hl : (lg_sl as).length ≤ 4) (h : Y137 d P 0 (lv_args 0 as) [] σ) : yC (d + 1) 137 as σ P := yC_of (by decide) hl h
section G137
variable {d : Nat} {Q : Option Value → zSt → Prop} {lv : zLv} {st : List Value} {σ : zSt}
theorem g137_0  : Y137 d Q 0 lv st σ ↔ zldI lv 1 (fun x => Y137 d Q 1 lv (.int x :: st) σ) := yX_at (.iload_n 1, 1, 0, 0, 0, 0, []) rfl
theorem g137_1 {x : Int32} : Y137 d Q 1 lv (.int x :: st) σ ↔ Y137 d Q 2 lv (.long x.toInt64 :: st) σ := yX_at (.i2l, 1, 0, 0, 0, 0, []) rfl
theorem g137_2  : Y137 d Q 2 lv st σ ↔ Y137 d Q 3 lv (.long 0 :: st) σ := yX_at (.lconst 0, 1, 0, 0, 0, 0, []) rfl
theorem g137_3  : Y137 d Q 3 lv st σ ↔ Y137 d Q 4 lv (.long 1 :: st) σ := yX_at (.lconst 1, 1, 0, 0, 0, 0, []) rfl
theorem g137_4 {v0 v1 v2 : Value} : Y137 d Q 4 lv (v2 :: v1 :: v0 :: st) σ ↔ zrm st ∧ ∃ rv σ', yE d 91 [v0, v1, v2] σ rv σ' ∧ Y137 d Q 7 lv (rv.toList ++ st) σ' := yX_at (.invokestatic 67, 3, 91, 3, 186, 0, []) rfl
theorem g137_7 {x : Int32} : Y137 d Q 7 lv (.int x :: st) σ ↔ (¬ x = 0 → Y137 d Q 12 lv st σ) ∧ (x = 0 → Y137 d Q 10 lv st σ) := yX_at (.ifCond .ne 5, 3, 12, 0, 0, 0, []) rfl
theorem g137_10  : Y137 d Q 10 lv st σ ↔ Y137 d Q 11 lv (.int (-1) :: st) σ := by
  rw [show (-1 : Int32) = Int32.ofInt (-1) from by decide]
  exact yX_at (.iconst (-1), 1, 0, 0, 0, 0, []) rfl
theorem g137_11 {x : Int32} : Y137 d Q 11 lv [.int x] σ ↔ Q (some (.int x)) σ := yX_at (.ireturn, 1, 0, 0, 0, 0, []) rfl
theorem g137_12  : Y137 d Q 12 lv st σ ↔ zldR lv 0 (fun x => Y137 d Q 13 lv (.ref x :: st) σ) := yX_at (.aload_n 0, 1, 0, 0, 0, 0, []) rfl
theorem g137_13 {c : Nat} : Y137 d Q 13 lv (.ref c :: st) σ ↔ (zrcv 7 c ∧ zrm st) ∧ ∃ rv σ', yE d 134 [.ref c] σ rv σ' ∧ Y137 d Q 16 lv (rv.toList ++ st) σ' := yX_at (.invokevirtual 217, 3, 134, 0, 255, 0, []) rfl
theorem g137_16 {x : Int32} : Y137 d Q 16 lv (.int x :: st) σ ↔ Y137 d Q 17 (zs1 2 (.int x) lv) st σ := yX_at (.istore_n 2, 1, 0, 0, 0, 0, []) rfl
theorem g137_17  : Y137 d Q 17 lv st σ ↔ zldR lv 0 (fun x => Y137 d Q 18 lv (.ref x :: st) σ) := yX_at (.aload_n 0, 1, 0, 0, 0, 0, []) rfl
theorem g137_18 {c : Nat} : Y137 d Q 18 lv (.ref c :: st) σ ↔ (zrcv 7 c ∧ zrm st) ∧ ∃ rv σ', yE d 134 [.ref c] σ rv σ' ∧ Y137 d Q 21 lv (rv.toList ++ st) σ' := yX_at (.invokevirtual 217, 3, 134, 0, 255, 0, []) rfl
theorem g137_21 {x : Int32} : Y137 d Q 21 lv (.int x :: st) σ ↔ Y137 d Q 22 (zs1 3 (.int x) lv) st σ := yX_at (.istore_n 3, 1, 0, 0, 0, 0, []) rfl
theorem g137_22  : Y137 d Q 22 lv st σ ↔ zldI lv 3 (fun x => Y137 d Q 23 lv (.int x :: st) σ) := yX_at (.iload_n 3, 1, 0, 0, 0, 0, []) rfl
theorem g137_23 {x : Int32} : Y137 d Q 23 lv (.int x :: st) σ ↔ (x < 0 → Y137 d Q 64 lv st σ) ∧ (¬ x < 0 → Y137 d Q 26 lv st σ) := yX_at (.ifCond .lt 41, 3, 64, 0, 0, 0, []) rfl
theorem g137_26  : Y137 d Q 26 lv st σ ↔ zldI lv 3 (fun x => Y137 d Q 27 lv (.int x :: st) σ) := yX_at (.iload_n 3, 1, 0, 0, 0, 0, []) rfl
theorem g137_27 {v0 : Value} : Y137 d Q 27 lv (v0 :: st) σ ↔ zrm st ∧ ∃ rv σ', yE d 93 [v0] σ rv σ' ∧ Y137 d Q 30 lv (rv.toList ++ st) σ' := yX_at (.invokestatic 180, 3, 93, 1, 236, 0, []) rfl
theorem g137_30  : Y137 d Q 30 lv st σ ↔ zldI lv 2 (fun x => Y137 d Q 31 lv (.int x :: st) σ) := yX_at (.iload_n 2, 1, 0, 0, 0, 0, []) rfl
theorem g137_31 {v0 : Value} : Y137 d Q 31 lv (v0 :: st) σ ↔ zrm st ∧ ∃ rv σ', yE d 93 [v0] σ rv σ' ∧ Y137 d Q 34 lv (rv.toList ++ st) σ' := yX_at (.invokestatic 180, 3, 93, 1, 236, 0, []) rfl
theorem g137_34 {x y : Int32} : Y137 d Q 34 lv (.int y :: .int x :: st) σ ↔ (y < x → Y137 d Q 56 lv st σ) ∧ (¬ y < x → Y137 d Q 37 lv st σ) := yX_at (.if_icmp .gt 22, 3, 56, 0, 0, 0, []) rfl
theorem g137_37  : Y137 d Q 37 lv st σ ↔ zldR lv 0 (fun x => Y137 d Q 38 lv (.ref x :: st) σ) := yX_at (.aload_n 0, 1, 0, 0, 0, 0, []) rfl
theorem g137_38  : Y137 d Q 38 lv st σ ↔ zldR lv 0 (fun x => Y137 d Q 39 lv (.ref x :: st) σ) := yX_at (.aload_n 0, 1, 0, 0, 0, 0, []) rfl
theorem g137_39 {c : Nat} : Y137 d Q 39 lv (.ref c :: st) σ ↔ (zrcv 7 c ∧ zrm st) ∧ ∃ rv σ', yE d 134 [.ref c] σ rv σ' ∧ Y137 d Q 42 lv (rv.toList ++ st) σ' := yX_at (.invokevirtual 217, 3, 134, 0, 255, 0, []) rfl
theorem g137_42  : Y137 d Q 42 lv st σ ↔ zldI lv 3 (fun x => Y137 d Q 43 lv (.int x :: st) σ) := yX_at (.iload_n 3, 1, 0, 0, 0, 0, []) rfl
theorem g137_43  : Y137 d Q 43 lv st σ ↔ Y137 d Q 44 lv (.int (-1) :: st) σ := by
  rw [show (-1 : Int32) = Int32.ofInt (-1) from by decide]
  exact yX_at (.iconst (-1), 1, 0, 0, 0, 0, []) rfl
theorem g137_44 {x y : Int32} : Y137 d Q 44 lv (.int y :: .int x :: st) σ ↔ Y137 d Q 45 lv (.int (x ^^^ y) :: st) σ := yX_at (.ixor, 1, 0, 0, 0, 0, []) rfl
theorem g137_45 {x y : Int32} : Y137 d Q 45 lv (.int y :: .int x :: st) σ ↔ Y137 d Q 46 lv (.int (x &&& y) :: st) σ := yX_at (.iand, 1, 0, 0, 0, 0, []) rfl
theorem g137_46 {v0 : Value} {c : Nat} : Y137 d Q 46 lv (v0 :: .ref c :: st) σ ↔ (zrcv 7 c ∧ zrm st) ∧ ∃ rv σ', yE d 133 [.ref c, v0] σ rv σ' ∧ Y137 d Q 49 lv (rv.toList ++ st) σ' := yX_at (.invokevirtual 220, 3, 133, 1, 256, 0, []) rfl
theorem g137_49 {x : Int32} : Y137 d Q 49 lv (.int x :: st) σ ↔ (¬ x = 0 → Y137 d Q 56 lv st σ) ∧ (x = 0 → Y137 d Q 52 lv st σ) := yX_at (.ifCond .ne 7, 3, 56, 0, 0, 0, []) rfl
theorem g137_52  : Y137 d Q 52 lv st σ ↔ zldI lv 3 (fun x => Y137 d Q 53 lv (.int x :: st) σ) := yX_at (.iload_n 3, 1, 0, 0, 0, 0, []) rfl
theorem g137_53  : Y137 d Q 53 lv st σ ↔ Y137 d Q 57 lv st σ := yX_at (.goto 4, 3, 57, 0, 0, 0, []) rfl
theorem g137_56  : Y137 d Q 56 lv st σ ↔ zldI lv 2 (fun x => Y137 d Q 57 lv (.int x :: st) σ) := yX_at (.iload_n 2, 1, 0, 0, 0, 0, []) rfl
theorem g137_57 {x : Int32} : Y137 d Q 57 lv (.int x :: st) σ ↔ Y137 d Q 58 (zs1 2 (.int x) lv) st σ := yX_at (.istore_n 2, 1, 0, 0, 0, 0, []) rfl
theorem g137_58  : Y137 d Q 58 lv st σ ↔ zldI lv 3 (fun x => Y137 d Q 61 (zs1 3 (.int (x + (-1))) lv) st σ) := by
  rw [show (-1 : Int32) = Int32.ofInt (-1) from by decide]
  exact yX_at (.iinc 3 (-1), 3, 0, 0, 0, 0, []) rfl
theorem g137_61  : Y137 d Q 61 lv st σ ↔ Y137 d Q 22 lv st σ := yX_at (.goto (-39), 3, 22, 0, 0, 0, []) rfl
theorem g137_64  : Y137 d Q 64 lv st σ ↔ zldI lv 1 (fun x => Y137 d Q 65 lv (.int x :: st) σ) := yX_at (.iload_n 1, 1, 0, 0, 0, 0, []) rfl
theorem g137_65 {x : Int32} : Y137 d Q 65 lv (.int x :: st) σ ↔ (¬ x = 0 → Y137 d Q 75 lv st σ) ∧ (x = 0 → Y137 d Q 68 lv st σ) := yX_at (.ifCond .ne 10, 3, 75, 0, 0, 0, []) rfl
theorem g137_68  : Y137 d Q 68 lv st σ ↔ zldI lv 2 (fun x => Y137 d Q 69 lv (.int x :: st) σ) := yX_at (.iload_n 2, 1, 0, 0, 0, 0, []) rfl
theorem g137_69 {v0 : Value} : Y137 d Q 69 lv (v0 :: st) σ ↔ zrm st ∧ ∃ rv σ', yE d 93 [v0] σ rv σ' ∧ Y137 d Q 72 lv (rv.toList ++ st) σ' := yX_at (.invokestatic 180, 3, 93, 1, 236, 0, []) rfl
theorem g137_72  : Y137 d Q 72 lv st σ ↔ Y137 d Q 76 lv st σ := yX_at (.goto 4, 3, 76, 0, 0, 0, []) rfl
theorem g137_75  : Y137 d Q 75 lv st σ ↔ zldI lv 2 (fun x => Y137 d Q 76 lv (.int x :: st) σ) := yX_at (.iload_n 2, 1, 0, 0, 0, 0, []) rfl
theorem g137_76 {x : Int32} : Y137 d Q 76 lv [.int x] σ ↔ Q (some (.int x)) σ := yX_at (.ireturn, 1, 0, 0, 0, 0, []) rfl
end G137
def Y138 (d : Nat) (Q : Option Value → zSt → Prop) (pc : Nat) (lv : zLv) (st : List Value) (σ : zSt) : Prop := yX (yE d) ySn zt138 Q pc lv st σ
theorem C138 {d : Nat} {as : List Value} {σ : zSt} {P : Option Value → zSt → Prop} (hl : (lg_sl as).length ≤ 4) (h : Y138 d P 0 (lv_args 0 as) [] σ) : yC (d + 1) 138 as σ P := yC_of (by decide) hl h
section G138
variable {d : Nat} {Q : Option Value → zSt → Prop} {lv : zLv} {st : List Value} {σ : zSt}
theorem g138_0  : Y138 d Q 0 lv st σ ↔ Y138 d Q 1 lv (.int 0 :: st) σ := yX_at (.iconst 0, 1, 0, 0, 0, 0, []) rfl
theorem g138_1 {x : Int32} : Y138 d Q 1 lv (.int x :: st) σ ↔ Y138 d Q 2 (zs1 2 (.int x) lv) st σ := yX_at (.istore_n 2, 1, 0, 0, 0, 0, []) rfl
theorem g138_2  : Y138 d Q 2 lv st σ ↔ Y138 d Q 3 lv (.int 0 :: st) σ := yX_at (.iconst 0, 1, 0, 0, 0, 0, []) rfl
theorem g138_3 {x : Int32} : Y138 d Q 3 lv (.int x :: st) σ ↔ Y138 d Q 4 (zs1 3 (.int x) lv) st σ := yX_at (.istore_n 3, 1, 0, 0, 0, 0, []) rfl
theorem g138_4  : Y138 d Q 4 lv st σ ↔ zldI lv 3 (fun x => Y138 d Q 5 lv (.int x :: st) σ) := yX_at (.iload_n 3, 1, 0, 0, 0, 0, []) rfl
theorem g138_5  : Y138 d Q 5 lv st σ ↔ zldR lv 0 (fun x => Y138 d Q 6 lv (.ref x :: st) σ) := yX_at (.aload_n 0, 1, 0, 0, 0, 0, []) rfl
theorem g138_6 {c : Nat} : Y138 d Q 6 lv (.ref c :: st) σ ↔ zK c = 7 ∧ Y138 d Q 9 lv (zfv σ c 0 :: st) σ := yX_at (.getfield 7, 3, 7, 0, 220, 0, []) rfl
theorem g138_9  : Y138 d Q 9 lv st σ ↔ Y138 d Q 11 lv (.int 19 :: st) σ := yX_at (.bipush 19, 2, 0, 0, 0, 0, []) rfl
theorem g138_11  : Y138 d Q 11 lv st σ ↔ zldI lv 1 (fun x => Y138 d Q 12 lv (.int x :: st) σ) := yX_at (.iload_n 1, 1, 0, 0, 0, 0, []) rfl
theorem g138_12 {x y : Int32} : Y138 d Q 12 lv (.int y :: .int x :: st) σ ↔ Y138 d Q 13 lv (.int (x + y) :: st) σ := yX_at (.iadd, 1, 0, 0, 0, 0, []) rfl
theorem g138_13 {j : Int32} {c : Nat} : Y138 d Q 13 lv (.int j :: .ref c :: st) σ ↔ (zK c = 100 ∧ vp_in j (zLn c)) ∧ Y138 d Q 14 lv (.int (σ.1 c j.toNatClampNeg) :: st) σ := yX_at (.iaload, 1, 0, 0, 0, 0, []) rfl
theorem g138_14 {x y : Int32} : Y138 d Q 14 lv (.int y :: .int x :: st) σ ↔ (y ≤ x → Y138 d Q 47 lv st σ) ∧ (¬ y ≤ x → Y138 d Q 17 lv st σ) := yX_at (.if_icmp .ge 33, 3, 47, 0, 0, 0, []) rfl
theorem g138_17  : Y138 d Q 17 lv st σ ↔ zldI lv 2 (fun x => Y138 d Q 18 lv (.int x :: st) σ) := yX_at (.iload_n 2, 1, 0, 0, 0, 0, []) rfl
theorem g138_18  : Y138 d Q 18 lv st σ ↔ zldR lv 0 (fun x => Y138 d Q 19 lv (.ref x :: st) σ) := yX_at (.aload_n 0, 1, 0, 0, 0, 0, []) rfl
theorem g138_19 {c : Nat} : Y138 d Q 19 lv (.ref c :: st) σ ↔ zK c = 7 ∧ Y138 d Q 22 lv (zfv σ c 0 :: st) σ := yX_at (.getfield 7, 3, 7, 0, 220, 0, []) rfl
theorem g138_22  : Y138 d Q 22 lv st σ ↔ Y138 d Q 24 lv (.int 11 :: st) σ := yX_at (.bipush 11, 2, 0, 0, 0, 0, []) rfl
theorem g138_24  : Y138 d Q 24 lv st σ ↔ zldR lv 0 (fun x => Y138 d Q 25 lv (.ref x :: st) σ) := yX_at (.aload_n 0, 1, 0, 0, 0, 0, []) rfl
theorem g138_25 {c : Nat} : Y138 d Q 25 lv (.ref c :: st) σ ↔ zK c = 7 ∧ Y138 d Q 28 lv (zfv σ c 0 :: st) σ := yX_at (.getfield 7, 3, 7, 0, 220, 0, []) rfl
theorem g138_28  : Y138 d Q 28 lv st σ ↔ Y138 d Q 30 lv (.int 23 :: st) σ := yX_at (.bipush 23, 2, 0, 0, 0, 0, []) rfl
theorem g138_30  : Y138 d Q 30 lv st σ ↔ Y138 d Q 31 lv (.int 5 :: st) σ := yX_at (.iconst 5, 1, 0, 0, 0, 0, []) rfl
theorem g138_31  : Y138 d Q 31 lv st σ ↔ zldI lv 1 (fun x => Y138 d Q 32 lv (.int x :: st) σ) := yX_at (.iload_n 1, 1, 0, 0, 0, 0, []) rfl
theorem g138_32 {x y : Int32} : Y138 d Q 32 lv (.int y :: .int x :: st) σ ↔ Y138 d Q 33 lv (.int (x * y) :: st) σ := yX_at (.imul, 1, 0, 0, 0, 0, []) rfl
theorem g138_33 {x y : Int32} : Y138 d Q 33 lv (.int y :: .int x :: st) σ ↔ Y138 d Q 34 lv (.int (x + y) :: st) σ := yX_at (.iadd, 1, 0, 0, 0, 0, []) rfl
theorem g138_34  : Y138 d Q 34 lv st σ ↔ zldI lv 3 (fun x => Y138 d Q 35 lv (.int x :: st) σ) := yX_at (.iload_n 3, 1, 0, 0, 0, 0, []) rfl
theorem g138_35 {x y : Int32} : Y138 d Q 35 lv (.int y :: .int x :: st) σ ↔ Y138 d Q 36 lv (.int (x + y) :: st) σ := yX_at (.iadd, 1, 0, 0, 0, 0, []) rfl
theorem g138_36 {j : Int32} {c : Nat} : Y138 d Q 36 lv (.int j :: .ref c :: st) σ ↔ (zK c = 100 ∧ vp_in j (zLn c)) ∧ Y138 d Q 37 lv (.int (σ.1 c j.toNatClampNeg) :: st) σ := yX_at (.iaload, 1, 0, 0, 0, 0, []) rfl
theorem g138_37 {x y : Int32} : Y138 d Q 37 lv (.int y :: .int x :: st) σ ↔ Y138 d Q 38 lv (.int (x + y) :: st) σ := yX_at (.iadd, 1, 0, 0, 0, 0, []) rfl
theorem g138_38 {j : Int32} {c : Nat} : Y138 d Q 38 lv (.int j :: .ref c :: st) σ ↔ (zK c = 100 ∧ vp_in j (zLn c)) ∧ Y138 d Q 39 lv (.int (σ.1 c j.toNatClampNeg) :: st) σ := yX_at (.iaload, 1, 0, 0, 0, 0, []) rfl
theorem g138_39 {x y : Int32} : Y138 d Q 39 lv (.int y :: .int x :: st) σ ↔ Y138 d Q 40 lv (.int (x + y) :: st) σ := yX_at (.iadd, 1, 0, 0, 0, 0, []) rfl
theorem g138_40 {x : Int32} : Y138 d Q 40 lv (.int x :: st) σ ↔ Y138 d Q 41 (zs1 2 (.int x) lv) st σ := yX_at (.istore_n 2, 1, 0, 0, 0, 0, []) rfl
theorem g138_41  : Y138 d Q 41 lv st σ ↔ zldI lv 3 (fun x => Y138 d Q 44 (zs1 3 (.int (x + 1)) lv) st σ) := yX_at (.iinc 3 1, 3, 0, 0, 0, 0, []) rfl
theorem g138_44  : Y138 d Q 44 lv st σ ↔ Y138 d Q 4 lv st σ := yX_at (.goto (-40), 3, 4, 0, 0, 0, []) rfl
theorem g138_47  : Y138 d Q 47 lv st σ ↔ zldI lv 2 (fun x => Y138 d Q 48 lv (.int x :: st) σ) := yX_at (.iload_n 2, 1, 0, 0, 0, 0, []) rfl
theorem g138_48 {x : Int32} : Y138 d Q 48 lv [.int x] σ ↔ Q (some (.int x)) σ := yX_at (.ireturn, 1, 0, 0, 0, 0, []) rfl
end G138
def Y139 (d : Nat) (Q : Option Value → zSt → Prop) (pc : Nat) (lv : zLv) (st : List Value) (σ : zSt) : Prop := yX (yE d) ySn zt139 Q pc lv st σ
theorem C139 {d : Nat} {as : List Value} {σ : zSt} {P : Option Value → zSt → Prop} (hl : (lg_sl as).length ≤ 11) (h : Y139 d P 0 (lv_args 0 as) [] σ) : yC (d + 1) 139 as σ P := yC_of (by decide) hl h
section G139
variable {d : Nat} {Q : Option Value → zSt → Prop} {lv : zLv} {st : List Value} {σ : zSt}
theorem g139_0  : Y139 d Q 0 lv st σ ↔ zldI lv 1 (fun x => Y139 d Q 1 lv (.int x :: st) σ) := yX_at (.iload_n 1, 1, 0, 0, 0, 0, []) rfl
theorem g139_1 {x : Int32} : Y139 d Q 1 lv (.int x :: st) σ ↔ Y139 d Q 2 lv (.long x.toInt64 :: st) σ := yX_at (.i2l, 1, 0, 0, 0, 0, []) rfl
theorem g139_2  : Y139 d Q 2 lv st σ ↔ Y139 d Q 3 lv (.long 1 :: st) σ := yX_at (.lconst 1, 1, 0, 0, 0, 0, []) rfl
theorem g139_3  : Y139 d Q 3 lv st σ ↔ Y139 d Q 6 lv (.long 99 :: st) σ := yX_at (.ldc2_w 197, 3, 0, 0, 243, 99, []) rfl
theorem g139_6 {v0 v1 v2 : Value} : Y139 d Q 6 lv (v2 :: v1 :: v0 :: st) σ ↔ zrm st ∧ ∃ rv σ', yE d 91 [v0, v1, v2] σ rv σ' ∧ Y139 d Q 9 lv (rv.toList ++ st) σ' := yX_at (.invokestatic 67, 3, 91, 3, 186, 0, []) rfl
theorem g139_9 {x : Int32} : Y139 d Q 9 lv (.int x :: st) σ ↔ (x = 0 → Y139 d Q 40 lv st σ) ∧ (¬ x = 0 → Y139 d Q 12 lv st σ) := yX_at (.ifCond .eq 31, 3, 40, 0, 0, 0, []) rfl
theorem g139_12  : Y139 d Q 12 lv st σ ↔ zldI lv 2 (fun x => Y139 d Q 13 lv (.int x :: st) σ) := yX_at (.iload_n 2, 1, 0, 0, 0, 0, []) rfl
theorem g139_13 {x : Int32} : Y139 d Q 13 lv (.int x :: st) σ ↔ Y139 d Q 14 lv (.long x.toInt64 :: st) σ := yX_at (.i2l, 1, 0, 0, 0, 0, []) rfl
theorem g139_14  : Y139 d Q 14 lv st σ ↔ zldR lv 0 (fun x => Y139 d Q 15 lv (.ref x :: st) σ) := yX_at (.aload_n 0, 1, 0, 0, 0, 0, []) rfl
theorem g139_15 {c : Nat} : Y139 d Q 15 lv (.ref c :: st) σ ↔ zK c = 7 ∧ Y139 d Q 18 lv (zfv σ c 0 :: st) σ := yX_at (.getfield 7, 3, 7, 0, 220, 0, []) rfl
theorem g139_18  : Y139 d Q 18 lv st σ ↔ Y139 d Q 19 lv (.int 0 :: st) σ := yX_at (.iconst 0, 1, 0, 0, 0, 0, []) rfl
theorem g139_19 {j : Int32} {c : Nat} : Y139 d Q 19 lv (.int j :: .ref c :: st) σ ↔ (zK c = 100 ∧ vp_in j (zLn c)) ∧ Y139 d Q 20 lv (.int (σ.1 c j.toNatClampNeg) :: st) σ := yX_at (.iaload, 1, 0, 0, 0, 0, []) rfl
theorem g139_20 {x : Int32} : Y139 d Q 20 lv (.int x :: st) σ ↔ Y139 d Q 21 lv (.long x.toInt64 :: st) σ := yX_at (.i2l, 1, 0, 0, 0, 0, []) rfl
theorem g139_21  : Y139 d Q 21 lv st σ ↔ Y139 d Q 24 lv (.long 9 :: st) σ := yX_at (.ldc2_w 226, 3, 0, 0, 258, 9, []) rfl
theorem g139_24 {v0 v1 v2 : Value} : Y139 d Q 24 lv (v2 :: v1 :: v0 :: st) σ ↔ zrm st ∧ ∃ rv σ', yE d 91 [v0, v1, v2] σ rv σ' ∧ Y139 d Q 27 lv (rv.toList ++ st) σ' := yX_at (.invokestatic 67, 3, 91, 3, 186, 0, []) rfl
theorem g139_27 {x : Int32} : Y139 d Q 27 lv (.int x :: st) σ ↔ (x = 0 → Y139 d Q 40 lv st σ) ∧ (¬ x = 0 → Y139 d Q 30 lv st σ) := yX_at (.ifCond .eq 13, 3, 40, 0, 0, 0, []) rfl
theorem g139_30  : Y139 d Q 30 lv st σ ↔ zldI lv 3 (fun x => Y139 d Q 31 lv (.int x :: st) σ) := yX_at (.iload_n 3, 1, 0, 0, 0, 0, []) rfl
theorem g139_31 {x : Int32} : Y139 d Q 31 lv (.int x :: st) σ ↔ Y139 d Q 32 lv (.long x.toInt64 :: st) σ := yX_at (.i2l, 1, 0, 0, 0, 0, []) rfl
theorem g139_32  : Y139 d Q 32 lv st σ ↔ Y139 d Q 33 lv (.long 0 :: st) σ := yX_at (.lconst 0, 1, 0, 0, 0, 0, []) rfl
theorem g139_33  : Y139 d Q 33 lv st σ ↔ Y139 d Q 34 lv (.long 1 :: st) σ := yX_at (.lconst 1, 1, 0, 0, 0, 0, []) rfl
theorem g139_34 {v0 v1 v2 : Value} : Y139 d Q 34 lv (v2 :: v1 :: v0 :: st) σ ↔ zrm st ∧ ∃ rv σ', yE d 91 [v0, v1, v2] σ rv σ' ∧ Y139 d Q 37 lv (rv.toList ++ st) σ' := yX_at (.invokestatic 67, 3, 91, 3, 186, 0, []) rfl
theorem g139_37 {x : Int32} : Y139 d Q 37 lv (.int x :: st) σ ↔ (¬ x = 0 → Y139 d Q 42 lv st σ) ∧ (x = 0 → Y139 d Q 40 lv st σ) := yX_at (.ifCond .ne 5, 3, 42, 0, 0, 0, []) rfl
theorem g139_40  : Y139 d Q 40 lv st σ ↔ Y139 d Q 41 lv (.int (-1) :: st) σ := by
  rw [show (-1 : Int32) = Int32.ofInt (-1) from by decide]
  exact yX_at (.iconst (-1), 1, 0, 0, 0, 0, []) rfl
theorem g139_41 {x : Int32} : Y139 d Q 41 lv [.int x] σ ↔ Q (some (.int x)) σ := yX_at (.ireturn, 1, 0, 0, 0, 0, []) rfl
theorem g139_42  : Y139 d Q 42 lv st σ ↔ zldI lv 1 (fun x => Y139 d Q 43 lv (.int x :: st) σ) := yX_at (.iload_n 1, 1, 0, 0, 0, 0, []) rfl
theorem g139_43 {x : Int32} : Y139 d Q 43 lv (.int x :: st) σ ↔ Y139 d Q 45 (zs1 4 (.int x) lv) st σ := yX_at (.istore 4, 2, 0, 0, 0, 0, []) rfl
theorem g139_45  : Y139 d Q 45 lv st σ ↔ Y139 d Q 46 lv (.int 0 :: st) σ := yX_at (.iconst 0, 1, 0, 0, 0, 0, []) rfl
theorem g139_46 {x : Int32} : Y139 d Q 46 lv (.int x :: st) σ ↔ Y139 d Q 48 (zs1 5 (.int x) lv) st σ := yX_at (.istore 5, 2, 0, 0, 0, 0, []) rfl
theorem g139_48  : Y139 d Q 48 lv st σ ↔ Y139 d Q 49 lv (.int 0 :: st) σ := yX_at (.iconst 0, 1, 0, 0, 0, 0, []) rfl
theorem g139_49 {x : Int32} : Y139 d Q 49 lv (.int x :: st) σ ↔ Y139 d Q 51 (zs1 6 (.int x) lv) st σ := yX_at (.istore 6, 2, 0, 0, 0, 0, []) rfl
theorem g139_51  : Y139 d Q 51 lv st σ ↔ Y139 d Q 52 lv (.int 0 :: st) σ := yX_at (.iconst 0, 1, 0, 0, 0, 0, []) rfl
theorem g139_52 {x : Int32} : Y139 d Q 52 lv (.int x :: st) σ ↔ Y139 d Q 54 (zs1 7 (.int x) lv) st σ := yX_at (.istore 7, 2, 0, 0, 0, 0, []) rfl
theorem g139_54  : Y139 d Q 54 lv st σ ↔ zldI lv 7 (fun x => Y139 d Q 56 lv (.int x :: st) σ) := yX_at (.iload 7, 2, 0, 0, 0, 0, []) rfl
theorem g139_56  : Y139 d Q 56 lv st σ ↔ Y139 d Q 58 lv (.int 10 :: st) σ := yX_at (.bipush 10, 2, 0, 0, 0, 0, []) rfl
theorem g139_58 {x y : Int32} : Y139 d Q 58 lv (.int y :: .int x :: st) σ ↔ (y ≤ x → Y139 d Q 189 lv st σ) ∧ (¬ y ≤ x → Y139 d Q 61 lv st σ) := yX_at (.if_icmp .ge 131, 3, 189, 0, 0, 0, []) rfl
theorem g139_61  : Y139 d Q 61 lv st σ ↔ Y139 d Q 62 lv (.int 0 :: st) σ := yX_at (.iconst 0, 1, 0, 0, 0, 0, []) rfl
theorem g139_62 {x : Int32} : Y139 d Q 62 lv (.int x :: st) σ ↔ Y139 d Q 64 (zs1 8 (.int x) lv) st σ := yX_at (.istore 8, 2, 0, 0, 0, 0, []) rfl
theorem g139_64  : Y139 d Q 64 lv st σ ↔ zldI lv 8 (fun x => Y139 d Q 66 lv (.int x :: st) σ) := yX_at (.iload 8, 2, 0, 0, 0, 0, []) rfl
theorem g139_66  : Y139 d Q 66 lv st σ ↔ zldR lv 0 (fun x => Y139 d Q 67 lv (.ref x :: st) σ) := yX_at (.aload_n 0, 1, 0, 0, 0, 0, []) rfl
theorem g139_67 {c : Nat} : Y139 d Q 67 lv (.ref c :: st) σ ↔ zK c = 7 ∧ Y139 d Q 70 lv (zfv σ c 2 :: st) σ := yX_at (.getfield 63, 3, 7, 2, 185, 0, []) rfl
theorem g139_70 {x y : Int32} : Y139 d Q 70 lv (.int y :: .int x :: st) σ ↔ (y ≤ x → Y139 d Q 183 lv st σ) ∧ (¬ y ≤ x → Y139 d Q 73 lv st σ) := yX_at (.if_icmp .ge 113, 3, 183, 0, 0, 0, []) rfl
theorem g139_73  : Y139 d Q 73 lv st σ ↔ zldR lv 0 (fun x => Y139 d Q 74 lv (.ref x :: st) σ) := yX_at (.aload_n 0, 1, 0, 0, 0, 0, []) rfl
theorem g139_74 {c : Nat} : Y139 d Q 74 lv (.ref c :: st) σ ↔ zK c = 7 ∧ Y139 d Q 77 lv (zfv σ c 4 :: st) σ := yX_at (.getfield 20, 3, 7, 4, 215, 0, []) rfl
theorem g139_77  : Y139 d Q 77 lv st σ ↔ zldI lv 8 (fun x => Y139 d Q 79 lv (.int x :: st) σ) := yX_at (.iload 8, 2, 0, 0, 0, 0, []) rfl
theorem g139_79 {j : Int32} {c : Nat} : Y139 d Q 79 lv (.int j :: .ref c :: st) σ ↔ (zK c = 100 ∧ vp_in j (zLn c)) ∧ Y139 d Q 80 lv (.int (σ.1 c j.toNatClampNeg) :: st) σ := yX_at (.iaload, 1, 0, 0, 0, 0, []) rfl
theorem g139_80  : Y139 d Q 80 lv st σ ↔ zldI lv 2 (fun x => Y139 d Q 81 lv (.int x :: st) σ) := yX_at (.iload_n 2, 1, 0, 0, 0, 0, []) rfl
theorem g139_81  : Y139 d Q 81 lv st σ ↔ zldR lv 0 (fun x => Y139 d Q 82 lv (.ref x :: st) σ) := yX_at (.aload_n 0, 1, 0, 0, 0, 0, []) rfl
theorem g139_82 {c : Nat} : Y139 d Q 82 lv (.ref c :: st) σ ↔ zK c = 7 ∧ Y139 d Q 85 lv (zfv σ c 0 :: st) σ := yX_at (.getfield 7, 3, 7, 0, 220, 0, []) rfl
theorem g139_85  : Y139 d Q 85 lv st σ ↔ Y139 d Q 86 lv (.int 0 :: st) σ := yX_at (.iconst 0, 1, 0, 0, 0, 0, []) rfl
theorem g139_86 {j : Int32} {c : Nat} : Y139 d Q 86 lv (.int j :: .ref c :: st) σ ↔ (zK c = 100 ∧ vp_in j (zLn c)) ∧ Y139 d Q 87 lv (.int (σ.1 c j.toNatClampNeg) :: st) σ := yX_at (.iaload, 1, 0, 0, 0, 0, []) rfl
theorem g139_87 {x y : Int32} : Y139 d Q 87 lv (.int y :: .int x :: st) σ ↔ Y139 d Q 88 lv (.int (x - y) :: st) σ := yX_at (.isub, 1, 0, 0, 0, 0, []) rfl
theorem g139_88  : Y139 d Q 88 lv st σ ↔ Y139 d Q 89 lv (.int 1 :: st) σ := yX_at (.iconst 1, 1, 0, 0, 0, 0, []) rfl
theorem g139_89 {x y : Int32} : Y139 d Q 89 lv (.int y :: .int x :: st) σ ↔ Y139 d Q 90 lv (.int (x + y) :: st) σ := yX_at (.iadd, 1, 0, 0, 0, 0, []) rfl
theorem g139_90 {x y : Int32} : Y139 d Q 90 lv (.int y :: .int x :: st) σ ↔ Y139 d Q 91 lv (.int (x * y) :: st) σ := yX_at (.imul, 1, 0, 0, 0, 0, []) rfl
theorem g139_91  : Y139 d Q 91 lv st σ ↔ zldR lv 0 (fun x => Y139 d Q 92 lv (.ref x :: st) σ) := yX_at (.aload_n 0, 1, 0, 0, 0, 0, []) rfl
theorem g139_92  : Y139 d Q 92 lv st σ ↔ zldI lv 8 (fun x => Y139 d Q 94 lv (.int x :: st) σ) := yX_at (.iload 8, 2, 0, 0, 0, 0, []) rfl
theorem g139_94 {v0 : Value} {c : Nat} : Y139 d Q 94 lv (v0 :: .ref c :: st) σ ↔ (zrcv 7 c ∧ zrm st) ∧ ∃ rv σ', yE d 138 [.ref c, v0] σ rv σ' ∧ Y139 d Q 97 lv (rv.toList ++ st) σ' := yX_at (.invokevirtual 228, 3, 138, 1, 259, 0, []) rfl
theorem g139_97 {x y : Int32} : Y139 d Q 97 lv (.int y :: .int x :: st) σ ↔ Y139 d Q 98 lv (.int (x - y) :: st) σ := yX_at (.isub, 1, 0, 0, 0, 0, []) rfl
theorem g139_98 {x : Int32} : Y139 d Q 98 lv (.int x :: st) σ ↔ Y139 d Q 100 (zs1 9 (.int x) lv) st σ := yX_at (.istore 9, 2, 0, 0, 0, 0, []) rfl
theorem g139_100  : Y139 d Q 100 lv st σ ↔ zldR lv 0 (fun x => Y139 d Q 101 lv (.ref x :: st) σ) := yX_at (.aload_n 0, 1, 0, 0, 0, 0, []) rfl
theorem g139_101 {c : Nat} : Y139 d Q 101 lv (.ref c :: st) σ ↔ zK c = 7 ∧ Y139 d Q 104 lv (zfv σ c 5 :: st) σ := yX_at (.getfield 23, 3, 7, 5, 216, 0, []) rfl
theorem g139_104  : Y139 d Q 104 lv st σ ↔ zldI lv 8 (fun x => Y139 d Q 106 lv (.int x :: st) σ) := yX_at (.iload 8, 2, 0, 0, 0, 0, []) rfl
theorem g139_106 {j : Int32} {c : Nat} : Y139 d Q 106 lv (.int j :: .ref c :: st) σ ↔ (zK c = 100 ∧ vp_in j (zLn c)) ∧ Y139 d Q 107 lv (.int (σ.1 c j.toNatClampNeg) :: st) σ := yX_at (.iaload, 1, 0, 0, 0, 0, []) rfl
theorem g139_107  : Y139 d Q 107 lv st σ ↔ zldI lv 7 (fun x => Y139 d Q 109 lv (.int x :: st) σ) := yX_at (.iload 7, 2, 0, 0, 0, 0, []) rfl
theorem g139_109 {x y : Int32} : Y139 d Q 109 lv (.int y :: .int x :: st) σ ↔ (¬ x = y → Y139 d Q 177 lv st σ) ∧ (x = y → Y139 d Q 112 lv st σ) := yX_at (.if_icmp .ne 68, 3, 177, 0, 0, 0, []) rfl
theorem g139_112  : Y139 d Q 112 lv st σ ↔ zldR lv 0 (fun x => Y139 d Q 113 lv (.ref x :: st) σ) := yX_at (.aload_n 0, 1, 0, 0, 0, 0, []) rfl
theorem g139_113 {c : Nat} : Y139 d Q 113 lv (.ref c :: st) σ ↔ zK c = 7 ∧ Y139 d Q 116 lv (zfv σ c 0 :: st) σ := yX_at (.getfield 7, 3, 7, 0, 220, 0, []) rfl
theorem g139_116  : Y139 d Q 116 lv st σ ↔ Y139 d Q 118 lv (.int 19 :: st) σ := yX_at (.bipush 19, 2, 0, 0, 0, 0, []) rfl
theorem g139_118  : Y139 d Q 118 lv st σ ↔ zldI lv 8 (fun x => Y139 d Q 120 lv (.int x :: st) σ) := yX_at (.iload 8, 2, 0, 0, 0, 0, []) rfl
theorem g139_120 {x y : Int32} : Y139 d Q 120 lv (.int y :: .int x :: st) σ ↔ Y139 d Q 121 lv (.int (x + y) :: st) σ := yX_at (.iadd, 1, 0, 0, 0, 0, []) rfl
theorem g139_121 {j : Int32} {c : Nat} : Y139 d Q 121 lv (.int j :: .ref c :: st) σ ↔ (zK c = 100 ∧ vp_in j (zLn c)) ∧ Y139 d Q 122 lv (.int (σ.1 c j.toNatClampNeg) :: st) σ := yX_at (.iaload, 1, 0, 0, 0, 0, []) rfl
theorem g139_122  : Y139 d Q 122 lv st σ ↔ zldR lv 0 (fun x => Y139 d Q 123 lv (.ref x :: st) σ) := yX_at (.aload_n 0, 1, 0, 0, 0, 0, []) rfl
theorem g139_123 {c : Nat} : Y139 d Q 123 lv (.ref c :: st) σ ↔ zK c = 7 ∧ Y139 d Q 126 lv (zfv σ c 3 :: st) σ := yX_at (.getfield 17, 3, 7, 3, 214, 0, []) rfl
theorem g139_126  : Y139 d Q 126 lv st σ ↔ zldI lv 8 (fun x => Y139 d Q 128 lv (.int x :: st) σ) := yX_at (.iload 8, 2, 0, 0, 0, 0, []) rfl
theorem g139_128 {j : Int32} {c : Nat} : Y139 d Q 128 lv (.int j :: .ref c :: st) σ ↔ (zK c = 100 ∧ vp_in j (zLn c)) ∧ Y139 d Q 129 lv (.int (σ.1 c j.toNatClampNeg) :: st) σ := yX_at (.iaload, 1, 0, 0, 0, 0, []) rfl
theorem g139_129 {x y : Int32} : Y139 d Q 129 lv (.int y :: .int x :: st) σ ↔ (y ≤ x → Y139 d Q 177 lv st σ) ∧ (¬ y ≤ x → Y139 d Q 132 lv st σ) := yX_at (.if_icmp .ge 48, 3, 177, 0, 0, 0, []) rfl
theorem g139_132  : Y139 d Q 132 lv st σ ↔ zldI lv 9 (fun x => Y139 d Q 134 lv (.int x :: st) σ) := yX_at (.iload 9, 2, 0, 0, 0, 0, []) rfl
theorem g139_134 {x : Int32} : Y139 d Q 134 lv (.int x :: st) σ ↔ (x ≤ 0 → Y139 d Q 177 lv st σ) ∧ (¬ x ≤ 0 → Y139 d Q 137 lv st σ) := yX_at (.ifCond .le 43, 3, 177, 0, 0, 0, []) rfl
theorem g139_137  : Y139 d Q 137 lv st σ ↔ zldI lv 4 (fun x => Y139 d Q 139 lv (.int x :: st) σ) := yX_at (.iload 4, 2, 0, 0, 0, 0, []) rfl
theorem g139_139 {x : Int32} : Y139 d Q 139 lv (.int x :: st) σ ↔ (x ≤ 0 → Y139 d Q 177 lv st σ) ∧ (¬ x ≤ 0 → Y139 d Q 142 lv st σ) := yX_at (.ifCond .le 38, 3, 177, 0, 0, 0, []) rfl
theorem g139_142  : Y139 d Q 142 lv st σ ↔ zldI lv 4 (fun x => Y139 d Q 144 lv (.int x :: st) σ) := yX_at (.iload 4, 2, 0, 0, 0, 0, []) rfl
theorem g139_144  : Y139 d Q 144 lv st σ ↔ zldI lv 9 (fun x => Y139 d Q 146 lv (.int x :: st) σ) := yX_at (.iload 9, 2, 0, 0, 0, 0, []) rfl
theorem g139_146 {v0 v1 : Value} : Y139 d Q 146 lv (v1 :: v0 :: st) σ ↔ zrm st ∧ ∃ rv σ', yE d 94 [v0, v1] σ rv σ' ∧ Y139 d Q 149 lv (rv.toList ++ st) σ' := yX_at (.invokestatic 95, 3, 94, 2, 197, 0, []) rfl
theorem g139_149 {x : Int32} : Y139 d Q 149 lv (.int x :: st) σ ↔ Y139 d Q 151 (zs1 10 (.int x) lv) st σ := yX_at (.istore 10, 2, 0, 0, 0, 0, []) rfl
theorem g139_151  : Y139 d Q 151 lv st σ ↔ zldI lv 4 (fun x => Y139 d Q 153 lv (.int x :: st) σ) := yX_at (.iload 4, 2, 0, 0, 0, 0, []) rfl
theorem g139_153  : Y139 d Q 153 lv st σ ↔ zldI lv 10 (fun x => Y139 d Q 155 lv (.int x :: st) σ) := yX_at (.iload 10, 2, 0, 0, 0, 0, []) rfl
theorem g139_155 {x y : Int32} : Y139 d Q 155 lv (.int y :: .int x :: st) σ ↔ Y139 d Q 156 lv (.int (x - y) :: st) σ := yX_at (.isub, 1, 0, 0, 0, 0, []) rfl
theorem g139_156 {x : Int32} : Y139 d Q 156 lv (.int x :: st) σ ↔ Y139 d Q 158 (zs1 4 (.int x) lv) st σ := yX_at (.istore 4, 2, 0, 0, 0, 0, []) rfl
theorem g139_158  : Y139 d Q 158 lv st σ ↔ zldI lv 5 (fun x => Y139 d Q 160 lv (.int x :: st) σ) := yX_at (.iload 5, 2, 0, 0, 0, 0, []) rfl
theorem g139_160  : Y139 d Q 160 lv st σ ↔ zldI lv 10 (fun x => Y139 d Q 162 lv (.int x :: st) σ) := yX_at (.iload 10, 2, 0, 0, 0, 0, []) rfl
theorem g139_162  : Y139 d Q 162 lv st σ ↔ zldI lv 7 (fun x => Y139 d Q 164 lv (.int x :: st) σ) := yX_at (.iload 7, 2, 0, 0, 0, 0, []) rfl
theorem g139_164 {x y : Int32} : Y139 d Q 164 lv (.int y :: .int x :: st) σ ↔ Y139 d Q 165 lv (.int (x * y) :: st) σ := yX_at (.imul, 1, 0, 0, 0, 0, []) rfl
theorem g139_165 {x y : Int32} : Y139 d Q 165 lv (.int y :: .int x :: st) σ ↔ Y139 d Q 166 lv (.int (x + y) :: st) σ := yX_at (.iadd, 1, 0, 0, 0, 0, []) rfl
theorem g139_166 {x : Int32} : Y139 d Q 166 lv (.int x :: st) σ ↔ Y139 d Q 168 (zs1 5 (.int x) lv) st σ := yX_at (.istore 5, 2, 0, 0, 0, 0, []) rfl
theorem g139_168  : Y139 d Q 168 lv st σ ↔ zldI lv 6 (fun x => Y139 d Q 170 lv (.int x :: st) σ) := yX_at (.iload 6, 2, 0, 0, 0, 0, []) rfl
theorem g139_170  : Y139 d Q 170 lv st σ ↔ Y139 d Q 171 lv (.int 1 :: st) σ := yX_at (.iconst 1, 1, 0, 0, 0, 0, []) rfl
theorem g139_171  : Y139 d Q 171 lv st σ ↔ zldI lv 8 (fun x => Y139 d Q 173 lv (.int x :: st) σ) := yX_at (.iload 8, 2, 0, 0, 0, 0, []) rfl
theorem g139_173 {x y : Int32} : Y139 d Q 173 lv (.int y :: .int x :: st) σ ↔ Y139 d Q 174 lv (.int (x <<< (y &&& 31)) :: st) σ := yX_at (.ishl, 1, 0, 0, 0, 0, []) rfl
theorem g139_174 {x y : Int32} : Y139 d Q 174 lv (.int y :: .int x :: st) σ ↔ Y139 d Q 175 lv (.int (x ||| y) :: st) σ := yX_at (.ior, 1, 0, 0, 0, 0, []) rfl
theorem g139_175 {x : Int32} : Y139 d Q 175 lv (.int x :: st) σ ↔ Y139 d Q 177 (zs1 6 (.int x) lv) st σ := yX_at (.istore 6, 2, 0, 0, 0, 0, []) rfl
theorem g139_177  : Y139 d Q 177 lv st σ ↔ zldI lv 8 (fun x => Y139 d Q 180 (zs1 8 (.int (x + 1)) lv) st σ) := yX_at (.iinc 8 1, 3, 0, 0, 0, 0, []) rfl
theorem g139_180  : Y139 d Q 180 lv st σ ↔ Y139 d Q 64 lv st σ := yX_at (.goto (-116), 3, 64, 0, 0, 0, []) rfl
theorem g139_183  : Y139 d Q 183 lv st σ ↔ zldI lv 7 (fun x => Y139 d Q 186 (zs1 7 (.int (x + 1)) lv) st σ) := yX_at (.iinc 7 1, 3, 0, 0, 0, 0, []) rfl
theorem g139_186  : Y139 d Q 186 lv st σ ↔ Y139 d Q 54 lv st σ := yX_at (.goto (-132), 3, 54, 0, 0, 0, []) rfl
theorem g139_189  : Y139 d Q 189 lv st σ ↔ zldI lv 4 (fun x => Y139 d Q 191 lv (.int x :: st) σ) := yX_at (.iload 4, 2, 0, 0, 0, 0, []) rfl
theorem g139_191 {x : Int32} : Y139 d Q 191 lv (.int x :: st) σ ↔ (x ≤ 0 → Y139 d Q 199 lv st σ) ∧ (¬ x ≤ 0 → Y139 d Q 194 lv st σ) := yX_at (.ifCond .le 8, 3, 199, 0, 0, 0, []) rfl
theorem g139_194  : Y139 d Q 194 lv st σ ↔ Y139 d Q 196 lv (.int (-9) :: st) σ := by
  rw [show (-9 : Int32) = (Int8.ofInt (-9)).toInt32 from by decide]
  exact yX_at (.bipush (-9), 2, 0, 0, 0, 0, []) rfl
theorem g139_196  : Y139 d Q 196 lv st σ ↔ Y139 d Q 210 lv st σ := yX_at (.goto 14, 3, 210, 0, 0, 0, []) rfl
theorem g139_199  : Y139 d Q 199 lv st σ ↔ zldI lv 3 (fun x => Y139 d Q 200 lv (.int x :: st) σ) := yX_at (.iload_n 3, 1, 0, 0, 0, 0, []) rfl
theorem g139_200 {x : Int32} : Y139 d Q 200 lv (.int x :: st) σ ↔ (¬ x = 0 → Y139 d Q 208 lv st σ) ∧ (x = 0 → Y139 d Q 203 lv st σ) := yX_at (.ifCond .ne 8, 3, 208, 0, 0, 0, []) rfl
theorem g139_203  : Y139 d Q 203 lv st σ ↔ zldI lv 5 (fun x => Y139 d Q 205 lv (.int x :: st) σ) := yX_at (.iload 5, 2, 0, 0, 0, 0, []) rfl
set_option maxRecDepth 20000 in
theorem g139_205  : Y139 d Q 205 lv st σ ↔ Y139 d Q 210 lv st σ := yX_at (.goto 5, 3, 210, 0, 0, 0, []) rfl
set_option maxRecDepth 20000 in
theorem g139_208  : Y139 d Q 208 lv st σ ↔ zldI lv 6 (fun x => Y139 d Q 210 lv (.int x :: st) σ) := yX_at (.iload 6, 2, 0, 0, 0, 0, []) rfl
set_option maxRecDepth 20000 in
theorem g139_210 {x : Int32} : Y139 d Q 210 lv [.int x] σ ↔ Q (some (.int x)) σ := yX_at (.ireturn, 1, 0, 0, 0, 0, []) rfl
end G139
def Y140 (d : Nat) (Q : Option Value → zSt → Prop) (pc : Nat) (lv : zLv) (st : List Value) (σ : zSt) : Prop := yX (yE d) ySn zt140 Q pc lv st σ
theorem C140 {d : Nat} {as : List Value} {σ : zSt} {P : Option Value → zSt → Prop} (hl : (lg_sl as).length ≤ 4) (h : Y140 d P 0 (lv_args 0 as) [] σ) : yC (d + 1) 140 as σ P := yC_of (by decide) hl h
section G140
variable {d : Nat} {Q : Option Value → zSt → Prop} {lv : zLv} {st : List Value} {σ : zSt}
theorem g140_0  : Y140 d Q 0 lv st σ ↔ zldI lv 1 (fun x => Y140 d Q 1 lv (.int x :: st) σ) := yX_at (.iload_n 1, 1, 0, 0, 0, 0, []) rfl
theorem g140_1 {x : Int32} : Y140 d Q 1 lv (.int x :: st) σ ↔ Y140 d Q 2 lv (.long x.toInt64 :: st) σ := yX_at (.i2l, 1, 0, 0, 0, 0, []) rfl
theorem g140_2  : Y140 d Q 2 lv st σ ↔ Y140 d Q 3 lv (.long 0 :: st) σ := yX_at (.lconst 0, 1, 0, 0, 0, 0, []) rfl
theorem g140_3  : Y140 d Q 3 lv st σ ↔ Y140 d Q 6 lv (.long 5 :: st) σ := yX_at (.ldc2_w 215, 3, 0, 0, 254, 5, []) rfl
theorem g140_6 {v0 v1 v2 : Value} : Y140 d Q 6 lv (v2 :: v1 :: v0 :: st) σ ↔ zrm st ∧ ∃ rv σ', yE d 91 [v0, v1, v2] σ rv σ' ∧ Y140 d Q 9 lv (rv.toList ++ st) σ' := yX_at (.invokestatic 67, 3, 91, 3, 186, 0, []) rfl
theorem g140_9 {x : Int32} : Y140 d Q 9 lv (.int x :: st) σ ↔ (x = 0 → Y140 d Q 20 lv st σ) ∧ (¬ x = 0 → Y140 d Q 12 lv st σ) := yX_at (.ifCond .eq 11, 3, 20, 0, 0, 0, []) rfl
theorem g140_12  : Y140 d Q 12 lv st σ ↔ zldR lv 0 (fun x => Y140 d Q 13 lv (.ref x :: st) σ) := yX_at (.aload_n 0, 1, 0, 0, 0, 0, []) rfl
theorem g140_13  : Y140 d Q 13 lv st σ ↔ zldI lv 2 (fun x => Y140 d Q 14 lv (.int x :: st) σ) := yX_at (.iload_n 2, 1, 0, 0, 0, 0, []) rfl
theorem g140_14 {v0 : Value} {c : Nat} : Y140 d Q 14 lv (v0 :: .ref c :: st) σ ↔ (zrcv 7 c ∧ zrm st) ∧ ∃ rv σ', yE d 95 [.ref c, v0] σ rv σ' ∧ Y140 d Q 17 lv (rv.toList ++ st) σ' := yX_at (.invokevirtual 136, 3, 95, 1, 222, 0, []) rfl
theorem g140_17 {x : Int32} : Y140 d Q 17 lv (.int x :: st) σ ↔ (¬ x = 0 → Y140 d Q 23 lv st σ) ∧ (x = 0 → Y140 d Q 20 lv st σ) := yX_at (.ifCond .ne 6, 3, 23, 0, 0, 0, []) rfl
theorem g140_20  : Y140 d Q 20 lv st σ ↔ Y140 d Q 22 lv (.int (-1000000) :: st) σ := by
  rw [show (-1000000 : Int32) = Int32.ofInt (-1000000) from by decide]
  exact yX_at (.ldc 231, 2, 0, 0, 260, (-1000000), []) rfl
theorem g140_22 {x : Int32} : Y140 d Q 22 lv [.int x] σ ↔ Q (some (.int x)) σ := yX_at (.ireturn, 1, 0, 0, 0, 0, []) rfl
theorem g140_23  : Y140 d Q 23 lv st σ ↔ zldR lv 0 (fun x => Y140 d Q 24 lv (.ref x :: st) σ) := yX_at (.aload_n 0, 1, 0, 0, 0, 0, []) rfl
theorem g140_24 {c : Nat} : Y140 d Q 24 lv (.ref c :: st) σ ↔ zK c = 7 ∧ Y140 d Q 27 lv (zfv σ c 3 :: st) σ := yX_at (.getfield 17, 3, 7, 3, 214, 0, []) rfl
theorem g140_27  : Y140 d Q 27 lv st σ ↔ zldI lv 2 (fun x => Y140 d Q 28 lv (.int x :: st) σ) := yX_at (.iload_n 2, 1, 0, 0, 0, 0, []) rfl
theorem g140_28 {j : Int32} {c : Nat} : Y140 d Q 28 lv (.int j :: .ref c :: st) σ ↔ (zK c = 100 ∧ vp_in j (zLn c)) ∧ Y140 d Q 29 lv (.int (σ.1 c j.toNatClampNeg) :: st) σ := yX_at (.iaload, 1, 0, 0, 0, 0, []) rfl
theorem g140_29  : Y140 d Q 29 lv st σ ↔ zldR lv 0 (fun x => Y140 d Q 30 lv (.ref x :: st) σ) := yX_at (.aload_n 0, 1, 0, 0, 0, 0, []) rfl
theorem g140_30 {c : Nat} : Y140 d Q 30 lv (.ref c :: st) σ ↔ zK c = 7 ∧ Y140 d Q 33 lv (zfv σ c 0 :: st) σ := yX_at (.getfield 7, 3, 7, 0, 220, 0, []) rfl
theorem g140_33  : Y140 d Q 33 lv st σ ↔ Y140 d Q 35 lv (.int 19 :: st) σ := yX_at (.bipush 19, 2, 0, 0, 0, 0, []) rfl
theorem g140_35  : Y140 d Q 35 lv st σ ↔ zldI lv 2 (fun x => Y140 d Q 36 lv (.int x :: st) σ) := yX_at (.iload_n 2, 1, 0, 0, 0, 0, []) rfl
theorem g140_36 {x y : Int32} : Y140 d Q 36 lv (.int y :: .int x :: st) σ ↔ Y140 d Q 37 lv (.int (x + y) :: st) σ := yX_at (.iadd, 1, 0, 0, 0, 0, []) rfl
theorem g140_37 {j : Int32} {c : Nat} : Y140 d Q 37 lv (.int j :: .ref c :: st) σ ↔ (zK c = 100 ∧ vp_in j (zLn c)) ∧ Y140 d Q 38 lv (.int (σ.1 c j.toNatClampNeg) :: st) σ := yX_at (.iaload, 1, 0, 0, 0, 0, []) rfl
theorem g140_38 {x y : Int32} : Y140 d Q 38 lv (.int y :: .int x :: st) σ ↔ Y140 d Q 39 lv (.int (x - y) :: st) σ := yX_at (.isub, 1, 0, 0, 0, 0, []) rfl
theorem g140_39 {x : Int32} : Y140 d Q 39 lv (.int x :: st) σ ↔ Y140 d Q 40 (zs1 3 (.int x) lv) st σ := yX_at (.istore_n 3, 1, 0, 0, 0, 0, []) rfl
theorem g140_40  : Y140 d Q 40 lv st σ ↔ zldR lv 0 (fun x => Y140 d Q 41 lv (.ref x :: st) σ) := yX_at (.aload_n 0, 1, 0, 0, 0, 0, []) rfl
theorem g140_41  : Y140 d Q 41 lv st σ ↔ zdup st (fun r => Y140 d Q 42 lv r σ) := yX_at (.dup, 1, 0, 0, 0, 0, []) rfl
theorem g140_42 {c : Nat} : Y140 d Q 42 lv (.ref c :: st) σ ↔ zK c = 7 ∧ Y140 d Q 45 lv (zfv σ c 16 :: st) σ := yX_at (.getfield 232, 3, 7, 16, 261, 0, []) rfl
theorem g140_45  : Y140 d Q 45 lv st σ ↔ Y140 d Q 46 lv (.long 1 :: st) σ := yX_at (.lconst 1, 1, 0, 0, 0, 0, []) rfl
theorem g140_46 {x y : Int64} : Y140 d Q 46 lv (.long y :: .long x :: st) σ ↔ Y140 d Q 47 lv (.long (x + y) :: st) σ := yX_at (.ladd, 1, 0, 0, 0, 0, []) rfl
theorem g140_47 {x : Int64} {c : Nat} : Y140 d Q 47 lv (.long x :: .ref c :: st) σ ↔ zK c = 7 ∧ Y140 d Q 50 lv st (zwJ σ c 16 x) := yX_at (.putfield 232, 3, 7, 16, 261, 0, []) rfl
theorem g140_50  : Y140 d Q 50 lv st σ ↔ zldI lv 1 (fun x => Y140 d Q 51 lv (.int x :: st) σ) := yX_at (.iload_n 1, 1, 0, 0, 0, 0, []) rfl
theorem g140_51 {x : Int32} : Y140 d Q 51 lv (.int x :: st) σ ↔ (x = 1 → Y140 d Q 84 lv st σ) ∧ (¬ x = 1 → ((x = 2 → Y140 d Q 105 lv st σ) ∧ (¬ x = 2 → ((x = 3 → Y140 d Q 125 lv st σ) ∧ (¬ x = 3 → ((x = 4 → Y140 d Q 148 lv st σ) ∧ (¬ x = 4 → ((x = 5 → Y140 d Q 170 lv st σ) ∧ (¬ x = 5 → (Y140 d Q 191 lv st σ)))))))))) := yX_at (.tableswitch 140 1 5 #[33, 54, 74, 97, 119], 33, 191, 0, 0, 0, [(1, 84), (2, 105), (3, 125), (4, 148), (5, 170)]) rfl
theorem g140_84  : Y140 d Q 84 lv st σ ↔ zldR lv 0 (fun x => Y140 d Q 85 lv (.ref x :: st) σ) := yX_at (.aload_n 0, 1, 0, 0, 0, 0, []) rfl
theorem g140_85  : Y140 d Q 85 lv st σ ↔ zdup st (fun r => Y140 d Q 86 lv r σ) := yX_at (.dup, 1, 0, 0, 0, 0, []) rfl
theorem g140_86 {c : Nat} : Y140 d Q 86 lv (.ref c :: st) σ ↔ zK c = 7 ∧ Y140 d Q 89 lv (zfv σ c 16 :: st) σ := yX_at (.getfield 232, 3, 7, 16, 261, 0, []) rfl
theorem g140_89  : Y140 d Q 89 lv st σ ↔ Y140 d Q 92 lv (.long 10 :: st) σ := yX_at (.ldc2_w 195, 3, 0, 0, 242, 10, []) rfl
theorem g140_92 {x y : Int64} : Y140 d Q 92 lv (.long y :: .long x :: st) σ ↔ Y140 d Q 93 lv (.long (x + y) :: st) σ := yX_at (.ladd, 1, 0, 0, 0, 0, []) rfl
theorem g140_93 {x : Int64} {c : Nat} : Y140 d Q 93 lv (.long x :: .ref c :: st) σ ↔ zK c = 7 ∧ Y140 d Q 96 lv st (zwJ σ c 16 x) := yX_at (.putfield 232, 3, 7, 16, 261, 0, []) rfl
theorem g140_96  : Y140 d Q 96 lv st σ ↔ zldI lv 3 (fun x => Y140 d Q 97 lv (.int x :: st) σ) := yX_at (.iload_n 3, 1, 0, 0, 0, 0, []) rfl
theorem g140_97  : Y140 d Q 97 lv st σ ↔ zldR lv 0 (fun x => Y140 d Q 98 lv (.ref x :: st) σ) := yX_at (.aload_n 0, 1, 0, 0, 0, 0, []) rfl
theorem g140_98 {c : Nat} : Y140 d Q 98 lv (.ref c :: st) σ ↔ zK c = 7 ∧ Y140 d Q 101 lv (zfv σ c 4 :: st) σ := yX_at (.getfield 20, 3, 7, 4, 215, 0, []) rfl
theorem g140_101  : Y140 d Q 101 lv st σ ↔ zldI lv 2 (fun x => Y140 d Q 102 lv (.int x :: st) σ) := yX_at (.iload_n 2, 1, 0, 0, 0, 0, []) rfl
theorem g140_102 {j : Int32} {c : Nat} : Y140 d Q 102 lv (.int j :: .ref c :: st) σ ↔ (zK c = 100 ∧ vp_in j (zLn c)) ∧ Y140 d Q 103 lv (.int (σ.1 c j.toNatClampNeg) :: st) σ := yX_at (.iaload, 1, 0, 0, 0, 0, []) rfl
theorem g140_103 {x y : Int32} : Y140 d Q 103 lv (.int y :: .int x :: st) σ ↔ Y140 d Q 104 lv (.int (x + y) :: st) σ := yX_at (.iadd, 1, 0, 0, 0, 0, []) rfl
theorem g140_104 {x : Int32} : Y140 d Q 104 lv [.int x] σ ↔ Q (some (.int x)) σ := yX_at (.ireturn, 1, 0, 0, 0, 0, []) rfl
theorem g140_105  : Y140 d Q 105 lv st σ ↔ zldR lv 0 (fun x => Y140 d Q 106 lv (.ref x :: st) σ) := yX_at (.aload_n 0, 1, 0, 0, 0, 0, []) rfl
theorem g140_106  : Y140 d Q 106 lv st σ ↔ zdup st (fun r => Y140 d Q 107 lv r σ) := yX_at (.dup, 1, 0, 0, 0, 0, []) rfl
theorem g140_107 {c : Nat} : Y140 d Q 107 lv (.ref c :: st) σ ↔ zK c = 7 ∧ Y140 d Q 110 lv (zfv σ c 16 :: st) σ := yX_at (.getfield 232, 3, 7, 16, 261, 0, []) rfl
theorem g140_110  : Y140 d Q 110 lv st σ ↔ Y140 d Q 113 lv (.long 100 :: st) σ := yX_at (.ldc2_w 236, 3, 0, 0, 262, 100, []) rfl
theorem g140_113 {x y : Int64} : Y140 d Q 113 lv (.long y :: .long x :: st) σ ↔ Y140 d Q 114 lv (.long (x + y) :: st) σ := yX_at (.ladd, 1, 0, 0, 0, 0, []) rfl
theorem g140_114 {x : Int64} {c : Nat} : Y140 d Q 114 lv (.long x :: .ref c :: st) σ ↔ zK c = 7 ∧ Y140 d Q 117 lv st (zwJ σ c 16 x) := yX_at (.putfield 232, 3, 7, 16, 261, 0, []) rfl
theorem g140_117  : Y140 d Q 117 lv st σ ↔ zldI lv 3 (fun x => Y140 d Q 118 lv (.int x :: st) σ) := yX_at (.iload_n 3, 1, 0, 0, 0, 0, []) rfl
theorem g140_118  : Y140 d Q 118 lv st σ ↔ zldR lv 0 (fun x => Y140 d Q 119 lv (.ref x :: st) σ) := yX_at (.aload_n 0, 1, 0, 0, 0, 0, []) rfl
theorem g140_119  : Y140 d Q 119 lv st σ ↔ zldI lv 2 (fun x => Y140 d Q 120 lv (.int x :: st) σ) := yX_at (.iload_n 2, 1, 0, 0, 0, 0, []) rfl
theorem g140_120 {v0 : Value} {c : Nat} : Y140 d Q 120 lv (v0 :: .ref c :: st) σ ↔ (zrcv 7 c ∧ zrm st) ∧ ∃ rv σ', yE d 138 [.ref c, v0] σ rv σ' ∧ Y140 d Q 123 lv (rv.toList ++ st) σ' := yX_at (.invokevirtual 228, 3, 138, 1, 259, 0, []) rfl
theorem g140_123 {x y : Int32} : Y140 d Q 123 lv (.int y :: .int x :: st) σ ↔ Y140 d Q 124 lv (.int (x - y) :: st) σ := yX_at (.isub, 1, 0, 0, 0, 0, []) rfl
theorem g140_124 {x : Int32} : Y140 d Q 124 lv [.int x] σ ↔ Q (some (.int x)) σ := yX_at (.ireturn, 1, 0, 0, 0, 0, []) rfl
theorem g140_125  : Y140 d Q 125 lv st σ ↔ zldR lv 0 (fun x => Y140 d Q 126 lv (.ref x :: st) σ) := yX_at (.aload_n 0, 1, 0, 0, 0, 0, []) rfl
theorem g140_126  : Y140 d Q 126 lv st σ ↔ zdup st (fun r => Y140 d Q 127 lv r σ) := yX_at (.dup, 1, 0, 0, 0, 0, []) rfl
theorem g140_127 {c : Nat} : Y140 d Q 127 lv (.ref c :: st) σ ↔ zK c = 7 ∧ Y140 d Q 130 lv (zfv σ c 16 :: st) σ := yX_at (.getfield 232, 3, 7, 16, 261, 0, []) rfl
theorem g140_130  : Y140 d Q 130 lv st σ ↔ Y140 d Q 133 lv (.long 1010 :: st) σ := yX_at (.ldc2_w 238, 3, 0, 0, 263, 1010, []) rfl
theorem g140_133 {x y : Int64} : Y140 d Q 133 lv (.long y :: .long x :: st) σ ↔ Y140 d Q 134 lv (.long (x + y) :: st) σ := yX_at (.ladd, 1, 0, 0, 0, 0, []) rfl
theorem g140_134 {x : Int64} {c : Nat} : Y140 d Q 134 lv (.long x :: .ref c :: st) σ ↔ zK c = 7 ∧ Y140 d Q 137 lv st (zwJ σ c 16 x) := yX_at (.putfield 232, 3, 7, 16, 261, 0, []) rfl
theorem g140_137  : Y140 d Q 137 lv st σ ↔ Y140 d Q 138 lv (.int 2 :: st) σ := yX_at (.iconst 2, 1, 0, 0, 0, 0, []) rfl
theorem g140_138  : Y140 d Q 138 lv st σ ↔ zldI lv 3 (fun x => Y140 d Q 139 lv (.int x :: st) σ) := yX_at (.iload_n 3, 1, 0, 0, 0, 0, []) rfl
theorem g140_139  : Y140 d Q 139 lv st σ ↔ zldR lv 0 (fun x => Y140 d Q 140 lv (.ref x :: st) σ) := yX_at (.aload_n 0, 1, 0, 0, 0, 0, []) rfl
theorem g140_140 {c : Nat} : Y140 d Q 140 lv (.ref c :: st) σ ↔ zK c = 7 ∧ Y140 d Q 143 lv (zfv σ c 4 :: st) σ := yX_at (.getfield 20, 3, 7, 4, 215, 0, []) rfl
theorem g140_143  : Y140 d Q 143 lv st σ ↔ zldI lv 2 (fun x => Y140 d Q 144 lv (.int x :: st) σ) := yX_at (.iload_n 2, 1, 0, 0, 0, 0, []) rfl
theorem g140_144 {j : Int32} {c : Nat} : Y140 d Q 144 lv (.int j :: .ref c :: st) σ ↔ (zK c = 100 ∧ vp_in j (zLn c)) ∧ Y140 d Q 145 lv (.int (σ.1 c j.toNatClampNeg) :: st) σ := yX_at (.iaload, 1, 0, 0, 0, 0, []) rfl
theorem g140_145 {x y : Int32} : Y140 d Q 145 lv (.int y :: .int x :: st) σ ↔ Y140 d Q 146 lv (.int (x + y) :: st) σ := yX_at (.iadd, 1, 0, 0, 0, 0, []) rfl
theorem g140_146 {x y : Int32} : Y140 d Q 146 lv (.int y :: .int x :: st) σ ↔ Y140 d Q 147 lv (.int (x * y) :: st) σ := yX_at (.imul, 1, 0, 0, 0, 0, []) rfl
theorem g140_147 {x : Int32} : Y140 d Q 147 lv [.int x] σ ↔ Q (some (.int x)) σ := yX_at (.ireturn, 1, 0, 0, 0, 0, []) rfl
theorem g140_148  : Y140 d Q 148 lv st σ ↔ zldR lv 0 (fun x => Y140 d Q 149 lv (.ref x :: st) σ) := yX_at (.aload_n 0, 1, 0, 0, 0, 0, []) rfl
theorem g140_149  : Y140 d Q 149 lv st σ ↔ zdup st (fun r => Y140 d Q 150 lv r σ) := yX_at (.dup, 1, 0, 0, 0, 0, []) rfl
theorem g140_150 {c : Nat} : Y140 d Q 150 lv (.ref c :: st) σ ↔ zK c = 7 ∧ Y140 d Q 153 lv (zfv σ c 16 :: st) σ := yX_at (.getfield 232, 3, 7, 16, 261, 0, []) rfl
theorem g140_153  : Y140 d Q 153 lv st σ ↔ Y140 d Q 156 lv (.long 10100 :: st) σ := yX_at (.ldc2_w 240, 3, 0, 0, 264, 10100, []) rfl
theorem g140_156 {x y : Int64} : Y140 d Q 156 lv (.long y :: .long x :: st) σ ↔ Y140 d Q 157 lv (.long (x + y) :: st) σ := yX_at (.ladd, 1, 0, 0, 0, 0, []) rfl
theorem g140_157 {x : Int64} {c : Nat} : Y140 d Q 157 lv (.long x :: .ref c :: st) σ ↔ zK c = 7 ∧ Y140 d Q 160 lv st (zwJ σ c 16 x) := yX_at (.putfield 232, 3, 7, 16, 261, 0, []) rfl
theorem g140_160  : Y140 d Q 160 lv st σ ↔ zldI lv 3 (fun x => Y140 d Q 161 lv (.int x :: st) σ) := yX_at (.iload_n 3, 1, 0, 0, 0, 0, []) rfl
theorem g140_161  : Y140 d Q 161 lv st σ ↔ zldR lv 0 (fun x => Y140 d Q 162 lv (.ref x :: st) σ) := yX_at (.aload_n 0, 1, 0, 0, 0, 0, []) rfl
theorem g140_162  : Y140 d Q 162 lv st σ ↔ zldI lv 2 (fun x => Y140 d Q 163 lv (.int x :: st) σ) := yX_at (.iload_n 2, 1, 0, 0, 0, 0, []) rfl
theorem g140_163 {v0 : Value} {c : Nat} : Y140 d Q 163 lv (v0 :: .ref c :: st) σ ↔ (zrcv 7 c ∧ zrm st) ∧ ∃ rv σ', yE d 138 [.ref c, v0] σ rv σ' ∧ Y140 d Q 166 lv (rv.toList ++ st) σ' := yX_at (.invokevirtual 228, 3, 138, 1, 259, 0, []) rfl
theorem g140_166 {x y : Int32} : Y140 d Q 166 lv (.int y :: .int x :: st) σ ↔ Y140 d Q 167 lv (.int (x - y) :: st) σ := yX_at (.isub, 1, 0, 0, 0, 0, []) rfl
theorem g140_167  : Y140 d Q 167 lv st σ ↔ zldI lv 2 (fun x => Y140 d Q 168 lv (.int x :: st) σ) := yX_at (.iload_n 2, 1, 0, 0, 0, 0, []) rfl
theorem g140_168 {x y : Int32} : Y140 d Q 168 lv (.int y :: .int x :: st) σ ↔ Y140 d Q 169 lv (.int (x + y) :: st) σ := yX_at (.iadd, 1, 0, 0, 0, 0, []) rfl
theorem g140_169 {x : Int32} : Y140 d Q 169 lv [.int x] σ ↔ Q (some (.int x)) σ := yX_at (.ireturn, 1, 0, 0, 0, 0, []) rfl
theorem g140_170  : Y140 d Q 170 lv st σ ↔ zldR lv 0 (fun x => Y140 d Q 171 lv (.ref x :: st) σ) := yX_at (.aload_n 0, 1, 0, 0, 0, 0, []) rfl
theorem g140_171  : Y140 d Q 171 lv st σ ↔ zdup st (fun r => Y140 d Q 172 lv r σ) := yX_at (.dup, 1, 0, 0, 0, 0, []) rfl
theorem g140_172 {c : Nat} : Y140 d Q 172 lv (.ref c :: st) σ ↔ zK c = 7 ∧ Y140 d Q 175 lv (zfv σ c 16 :: st) σ := yX_at (.getfield 232, 3, 7, 16, 261, 0, []) rfl
theorem g140_175  : Y140 d Q 175 lv st σ ↔ Y140 d Q 178 lv (.long 100000 :: st) σ := yX_at (.ldc2_w 242, 3, 0, 0, 265, 100000, []) rfl
theorem g140_178 {x y : Int64} : Y140 d Q 178 lv (.long y :: .long x :: st) σ ↔ Y140 d Q 179 lv (.long (x + y) :: st) σ := yX_at (.ladd, 1, 0, 0, 0, 0, []) rfl
theorem g140_179 {x : Int64} {c : Nat} : Y140 d Q 179 lv (.long x :: .ref c :: st) σ ↔ zK c = 7 ∧ Y140 d Q 182 lv st (zwJ σ c 16 x) := yX_at (.putfield 232, 3, 7, 16, 261, 0, []) rfl
theorem g140_182  : Y140 d Q 182 lv st σ ↔ zldI lv 3 (fun x => Y140 d Q 183 lv (.int x :: st) σ) := yX_at (.iload_n 3, 1, 0, 0, 0, 0, []) rfl
theorem g140_183  : Y140 d Q 183 lv st σ ↔ zldR lv 0 (fun x => Y140 d Q 184 lv (.ref x :: st) σ) := yX_at (.aload_n 0, 1, 0, 0, 0, 0, []) rfl
theorem g140_184 {c : Nat} : Y140 d Q 184 lv (.ref c :: st) σ ↔ zK c = 7 ∧ Y140 d Q 187 lv (zfv σ c 0 :: st) σ := yX_at (.getfield 7, 3, 7, 0, 220, 0, []) rfl
theorem g140_187  : Y140 d Q 187 lv st σ ↔ Y140 d Q 188 lv (.int 0 :: st) σ := yX_at (.iconst 0, 1, 0, 0, 0, 0, []) rfl
theorem g140_188 {j : Int32} {c : Nat} : Y140 d Q 188 lv (.int j :: .ref c :: st) σ ↔ (zK c = 100 ∧ vp_in j (zLn c)) ∧ Y140 d Q 189 lv (.int (σ.1 c j.toNatClampNeg) :: st) σ := yX_at (.iaload, 1, 0, 0, 0, 0, []) rfl
theorem g140_189 {x y : Int32} : Y140 d Q 189 lv (.int y :: .int x :: st) σ ↔ Y140 d Q 190 lv (.int (x + y) :: st) σ := yX_at (.iadd, 1, 0, 0, 0, 0, []) rfl
theorem g140_190 {x : Int32} : Y140 d Q 190 lv [.int x] σ ↔ Q (some (.int x)) σ := yX_at (.ireturn, 1, 0, 0, 0, 0, []) rfl
theorem g140_191  : Y140 d Q 191 lv st σ ↔ zldI lv 3 (fun x => Y140 d Q 192 lv (.int x :: st) σ) := yX_at (.iload_n 3, 1, 0, 0, 0, 0, []) rfl
theorem g140_192 {x : Int32} : Y140 d Q 192 lv [.int x] σ ↔ Q (some (.int x)) σ := yX_at (.ireturn, 1, 0, 0, 0, 0, []) rfl
end G140
def Y141 (d : Nat) (Q : Option Value → zSt → Prop) (pc : Nat) (lv : zLv) (st : List Value) (σ : zSt) : Prop := yX (yE d) ySn zt141 Q pc lv st σ
theorem C141 {d : Nat} {as : List Value} {σ : zSt} {P : Option Value → zSt → Prop} (hl : (lg_sl as).length ≤ 4) (h : Y141 d P 0 (lv_args 0 as) [] σ) : yC (d + 1) 141 as σ P := yC_of (by decide) hl h
section G141
variable {d : Nat} {Q : Option Value → zSt → Prop} {lv : zLv} {st : List Value} {σ : zSt}
theorem g141_0  : Y141 d Q 0 lv st σ ↔ Y141 d Q 1 lv (.int 0 :: st) σ := yX_at (.iconst 0, 1, 0, 0, 0, 0, []) rfl
theorem g141_1 {x : Int32} : Y141 d Q 1 lv (.int x :: st) σ ↔ Y141 d Q 2 (zs1 3 (.int x) lv) st σ := yX_at (.istore_n 3, 1, 0, 0, 0, 0, []) rfl
theorem g141_2  : Y141 d Q 2 lv st σ ↔ zldI lv 3 (fun x => Y141 d Q 3 lv (.int x :: st) σ) := yX_at (.iload_n 3, 1, 0, 0, 0, 0, []) rfl
theorem g141_3  : Y141 d Q 3 lv st σ ↔ Y141 d Q 5 lv (.int 100 :: st) σ := yX_at (.bipush 100, 2, 0, 0, 0, 0, []) rfl
theorem g141_5 {x y : Int32} : Y141 d Q 5 lv (.int y :: .int x :: st) σ ↔ (y ≤ x → Y141 d Q 30 lv st σ) ∧ (¬ y ≤ x → Y141 d Q 8 lv st σ) := yX_at (.if_icmp .ge 25, 3, 30, 0, 0, 0, []) rfl
theorem g141_8  : Y141 d Q 8 lv st σ ↔ zldR lv 0 (fun x => Y141 d Q 9 lv (.ref x :: st) σ) := yX_at (.aload_n 0, 1, 0, 0, 0, 0, []) rfl
theorem g141_9 {c : Nat} : Y141 d Q 9 lv (.ref c :: st) σ ↔ zK c = 7 ∧ Y141 d Q 12 lv (zfv σ c 0 :: st) σ := yX_at (.getfield 7, 3, 7, 0, 220, 0, []) rfl
theorem g141_12  : Y141 d Q 12 lv st σ ↔ zldI lv 2 (fun x => Y141 d Q 13 lv (.int x :: st) σ) := yX_at (.iload_n 2, 1, 0, 0, 0, 0, []) rfl
theorem g141_13  : Y141 d Q 13 lv st σ ↔ zldI lv 3 (fun x => Y141 d Q 14 lv (.int x :: st) σ) := yX_at (.iload_n 3, 1, 0, 0, 0, 0, []) rfl
theorem g141_14 {x y : Int32} : Y141 d Q 14 lv (.int y :: .int x :: st) σ ↔ Y141 d Q 15 lv (.int (x + y) :: st) σ := yX_at (.iadd, 1, 0, 0, 0, 0, []) rfl
theorem g141_15  : Y141 d Q 15 lv st σ ↔ zldR lv 0 (fun x => Y141 d Q 16 lv (.ref x :: st) σ) := yX_at (.aload_n 0, 1, 0, 0, 0, 0, []) rfl
theorem g141_16 {c : Nat} : Y141 d Q 16 lv (.ref c :: st) σ ↔ zK c = 7 ∧ Y141 d Q 19 lv (zfv σ c 0 :: st) σ := yX_at (.getfield 7, 3, 7, 0, 220, 0, []) rfl
theorem g141_19  : Y141 d Q 19 lv st σ ↔ zldI lv 1 (fun x => Y141 d Q 20 lv (.int x :: st) σ) := yX_at (.iload_n 1, 1, 0, 0, 0, 0, []) rfl
theorem g141_20  : Y141 d Q 20 lv st σ ↔ zldI lv 3 (fun x => Y141 d Q 21 lv (.int x :: st) σ) := yX_at (.iload_n 3, 1, 0, 0, 0, 0, []) rfl
theorem g141_21 {x y : Int32} : Y141 d Q 21 lv (.int y :: .int x :: st) σ ↔ Y141 d Q 22 lv (.int (x + y) :: st) σ := yX_at (.iadd, 1, 0, 0, 0, 0, []) rfl
theorem g141_22 {j : Int32} {c : Nat} : Y141 d Q 22 lv (.int j :: .ref c :: st) σ ↔ (zK c = 100 ∧ vp_in j (zLn c)) ∧ Y141 d Q 23 lv (.int (σ.1 c j.toNatClampNeg) :: st) σ := yX_at (.iaload, 1, 0, 0, 0, 0, []) rfl
theorem g141_23 {x j : Int32} {c : Nat} : Y141 d Q 23 lv (.int x :: .int j :: .ref c :: st) σ ↔ (zK c = 100 ∧ vp_in j (zLn c)) ∧ Y141 d Q 24 lv st (zwI σ c j.toNatClampNeg x) := yX_at (.iastore, 1, 0, 0, 0, 0, []) rfl
theorem g141_24  : Y141 d Q 24 lv st σ ↔ zldI lv 3 (fun x => Y141 d Q 27 (zs1 3 (.int (x + 1)) lv) st σ) := yX_at (.iinc 3 1, 3, 0, 0, 0, 0, []) rfl
theorem g141_27  : Y141 d Q 27 lv st σ ↔ Y141 d Q 2 lv st σ := yX_at (.goto (-25), 3, 2, 0, 0, 0, []) rfl
theorem g141_30  : Y141 d Q 30 lv [] σ ↔ Q none σ := yX_at (.return_, 1, 0, 0, 0, 0, []) rfl
end G141
def Y142 (d : Nat) (Q : Option Value → zSt → Prop) (pc : Nat) (lv : zLv) (st : List Value) (σ : zSt) : Prop := yX (yE d) ySn zt142 Q pc lv st σ
theorem C142 {d : Nat} {as : List Value} {σ : zSt} {P : Option Value → zSt → Prop} (hl : (lg_sl as).length ≤ 2) (h : Y142 d P 0 (lv_args 0 as) [] σ) : yC (d + 1) 142 as σ P := yC_of (by decide) hl h
section G142
variable {d : Nat} {Q : Option Value → zSt → Prop} {lv : zLv} {st : List Value} {σ : zSt}
theorem g142_0  : Y142 d Q 0 lv st σ ↔ zldI lv 1 (fun x => Y142 d Q 1 lv (.int x :: st) σ) := yX_at (.iload_n 1, 1, 0, 0, 0, 0, []) rfl
theorem g142_1 {x : Int32} : Y142 d Q 1 lv (.int x :: st) σ ↔ Y142 d Q 2 lv (.long x.toInt64 :: st) σ := yX_at (.i2l, 1, 0, 0, 0, 0, []) rfl
theorem g142_2  : Y142 d Q 2 lv st σ ↔ Y142 d Q 3 lv (.long 0 :: st) σ := yX_at (.lconst 0, 1, 0, 0, 0, 0, []) rfl
theorem g142_3  : Y142 d Q 3 lv st σ ↔ Y142 d Q 4 lv (.long 1 :: st) σ := yX_at (.lconst 1, 1, 0, 0, 0, 0, []) rfl
theorem g142_4 {v0 v1 v2 : Value} : Y142 d Q 4 lv (v2 :: v1 :: v0 :: st) σ ↔ zrm st ∧ ∃ rv σ', yE d 91 [v0, v1, v2] σ rv σ' ∧ Y142 d Q 7 lv (rv.toList ++ st) σ' := yX_at (.invokestatic 67, 3, 91, 3, 186, 0, []) rfl
theorem g142_7 {x : Int32} : Y142 d Q 7 lv (.int x :: st) σ ↔ (¬ x = 0 → Y142 d Q 12 lv st σ) ∧ (x = 0 → Y142 d Q 10 lv st σ) := yX_at (.ifCond .ne 5, 3, 12, 0, 0, 0, []) rfl
theorem g142_10  : Y142 d Q 10 lv st σ ↔ Y142 d Q 11 lv (.int (-1) :: st) σ := by
  rw [show (-1 : Int32) = Int32.ofInt (-1) from by decide]
  exact yX_at (.iconst (-1), 1, 0, 0, 0, 0, []) rfl
theorem g142_11 {x : Int32} : Y142 d Q 11 lv [.int x] σ ↔ Q (some (.int x)) σ := yX_at (.ireturn, 1, 0, 0, 0, 0, []) rfl
theorem g142_12  : Y142 d Q 12 lv st σ ↔ zldR lv 0 (fun x => Y142 d Q 13 lv (.ref x :: st) σ) := yX_at (.aload_n 0, 1, 0, 0, 0, 0, []) rfl
theorem g142_13  : Y142 d Q 13 lv st σ ↔ Y142 d Q 14 lv (.int 0 :: st) σ := yX_at (.iconst 0, 1, 0, 0, 0, 0, []) rfl
theorem g142_14  : Y142 d Q 14 lv st σ ↔ Y142 d Q 16 lv (.int 100 :: st) σ := yX_at (.bipush 100, 2, 0, 0, 0, 0, []) rfl
theorem g142_16  : Y142 d Q 16 lv st σ ↔ Y142 d Q 17 lv (.int 1 :: st) σ := yX_at (.iconst 1, 1, 0, 0, 0, 0, []) rfl
theorem g142_17  : Y142 d Q 17 lv st σ ↔ zldI lv 1 (fun x => Y142 d Q 18 lv (.int x :: st) σ) := yX_at (.iload_n 1, 1, 0, 0, 0, 0, []) rfl
theorem g142_18 {x y : Int32} : Y142 d Q 18 lv (.int y :: .int x :: st) σ ↔ Y142 d Q 19 lv (.int (x + y) :: st) σ := yX_at (.iadd, 1, 0, 0, 0, 0, []) rfl
theorem g142_19 {x y : Int32} : Y142 d Q 19 lv (.int y :: .int x :: st) σ ↔ Y142 d Q 20 lv (.int (x * y) :: st) σ := yX_at (.imul, 1, 0, 0, 0, 0, []) rfl
theorem g142_20 {v0 v1 : Value} {c : Nat} : Y142 d Q 20 lv (v1 :: v0 :: .ref c :: st) σ ↔ (zrcv 7 c ∧ zrm st) ∧ ∃ rv σ', yE d 141 [.ref c, v0, v1] σ rv σ' ∧ Y142 d Q 23 lv (rv.toList ++ st) σ' := yX_at (.invokevirtual 244, 3, 141, 2, 266, 0, []) rfl
theorem g142_23  : Y142 d Q 23 lv st σ ↔ zldR lv 0 (fun x => Y142 d Q 24 lv (.ref x :: st) σ) := yX_at (.aload_n 0, 1, 0, 0, 0, 0, []) rfl
theorem g142_24 {c : Nat} : Y142 d Q 24 lv (.ref c :: st) σ ↔ zK c = 7 ∧ Y142 d Q 27 lv (zfv σ c 1 :: st) σ := yX_at (.getfield 13, 3, 7, 1, 221, 0, []) rfl
theorem g142_27  : Y142 d Q 27 lv st σ ↔ zldI lv 1 (fun x => Y142 d Q 28 lv (.int x :: st) σ) := yX_at (.iload_n 1, 1, 0, 0, 0, 0, []) rfl
theorem g142_28  : Y142 d Q 28 lv st σ ↔ Y142 d Q 29 lv (.int 1 :: st) σ := yX_at (.iconst 1, 1, 0, 0, 0, 0, []) rfl
theorem g142_29 {x j : Int32} {c : Nat} : Y142 d Q 29 lv (.int x :: .int j :: .ref c :: st) σ ↔ (zK c = 102 ∧ vp_in j (zLn c)) ∧ Y142 d Q 30 lv st (zwI σ c j.toNatClampNeg (vp_nar .boolean x)) := yX_at (.bastore, 1, 1, 0, 0, 0, []) rfl
theorem g142_30  : Y142 d Q 30 lv st σ ↔ zldR lv 0 (fun x => Y142 d Q 31 lv (.ref x :: st) σ) := yX_at (.aload_n 0, 1, 0, 0, 0, 0, []) rfl
theorem g142_31 {c : Nat} : Y142 d Q 31 lv (.ref c :: st) σ ↔ zK c = 7 ∧ Y142 d Q 34 lv (zfv σ c 0 :: st) σ := yX_at (.getfield 7, 3, 7, 0, 220, 0, []) rfl
theorem g142_34  : Y142 d Q 34 lv st σ ↔ Y142 d Q 35 lv (.int 0 :: st) σ := yX_at (.iconst 0, 1, 0, 0, 0, 0, []) rfl
theorem g142_35 {j : Int32} {c : Nat} : Y142 d Q 35 lv (.int j :: .ref c :: st) σ ↔ (zK c = 100 ∧ vp_in j (zLn c)) ∧ Y142 d Q 36 lv (.int (σ.1 c j.toNatClampNeg) :: st) σ := yX_at (.iaload, 1, 0, 0, 0, 0, []) rfl
theorem g142_36 {x : Int32} : Y142 d Q 36 lv [.int x] σ ↔ Q (some (.int x)) σ := yX_at (.ireturn, 1, 0, 0, 0, 0, []) rfl
end G142
def Y143 (d : Nat) (Q : Option Value → zSt → Prop) (pc : Nat) (lv : zLv) (st : List Value) (σ : zSt) : Prop := yX (yE d) ySn zt143 Q pc lv st σ
theorem C143 {d : Nat} {as : List Value} {σ : zSt} {P : Option Value → zSt → Prop} (hl : (lg_sl as).length ≤ 2) (h : Y143 d P 0 (lv_args 0 as) [] σ) : yC (d + 1) 143 as σ P := yC_of (by decide) hl h
section G143
variable {d : Nat} {Q : Option Value → zSt → Prop} {lv : zLv} {st : List Value} {σ : zSt}
theorem g143_0  : Y143 d Q 0 lv st σ ↔ zldI lv 1 (fun x => Y143 d Q 1 lv (.int x :: st) σ) := yX_at (.iload_n 1, 1, 0, 0, 0, 0, []) rfl
theorem g143_1 {x : Int32} : Y143 d Q 1 lv (.int x :: st) σ ↔ Y143 d Q 2 lv (.long x.toInt64 :: st) σ := yX_at (.i2l, 1, 0, 0, 0, 0, []) rfl
theorem g143_2  : Y143 d Q 2 lv st σ ↔ Y143 d Q 3 lv (.long 0 :: st) σ := yX_at (.lconst 0, 1, 0, 0, 0, 0, []) rfl
theorem g143_3  : Y143 d Q 3 lv st σ ↔ Y143 d Q 4 lv (.long 1 :: st) σ := yX_at (.lconst 1, 1, 0, 0, 0, 0, []) rfl
theorem g143_4 {v0 v1 v2 : Value} : Y143 d Q 4 lv (v2 :: v1 :: v0 :: st) σ ↔ zrm st ∧ ∃ rv σ', yE d 91 [v0, v1, v2] σ rv σ' ∧ Y143 d Q 7 lv (rv.toList ++ st) σ' := yX_at (.invokestatic 67, 3, 91, 3, 186, 0, []) rfl
theorem g143_7 {x : Int32} : Y143 d Q 7 lv (.int x :: st) σ ↔ (¬ x = 0 → Y143 d Q 12 lv st σ) ∧ (x = 0 → Y143 d Q 10 lv st σ) := yX_at (.ifCond .ne 5, 3, 12, 0, 0, 0, []) rfl
theorem g143_10  : Y143 d Q 10 lv st σ ↔ Y143 d Q 11 lv (.int (-1) :: st) σ := by
  rw [show (-1 : Int32) = Int32.ofInt (-1) from by decide]
  exact yX_at (.iconst (-1), 1, 0, 0, 0, 0, []) rfl
theorem g143_11 {x : Int32} : Y143 d Q 11 lv [.int x] σ ↔ Q (some (.int x)) σ := yX_at (.ireturn, 1, 0, 0, 0, 0, []) rfl
theorem g143_12  : Y143 d Q 12 lv st σ ↔ zldR lv 0 (fun x => Y143 d Q 13 lv (.ref x :: st) σ) := yX_at (.aload_n 0, 1, 0, 0, 0, 0, []) rfl
theorem g143_13 {c : Nat} : Y143 d Q 13 lv (.ref c :: st) σ ↔ zK c = 7 ∧ Y143 d Q 16 lv (zfv σ c 1 :: st) σ := yX_at (.getfield 13, 3, 7, 1, 221, 0, []) rfl
theorem g143_16  : Y143 d Q 16 lv st σ ↔ zldI lv 1 (fun x => Y143 d Q 17 lv (.int x :: st) σ) := yX_at (.iload_n 1, 1, 0, 0, 0, 0, []) rfl
theorem g143_17 {j : Int32} {c : Nat} : Y143 d Q 17 lv (.int j :: .ref c :: st) σ ↔ ((zK c = 101 ∨ zK c = 102) ∧ vp_in j (zLn c)) ∧ Y143 d Q 18 lv (.int (σ.1 c j.toNatClampNeg) :: st) σ := yX_at (.baload, 1, 0, 0, 0, 0, []) rfl
theorem g143_18 {x : Int32} : Y143 d Q 18 lv (.int x :: st) σ ↔ (¬ x = 0 → Y143 d Q 24 lv st σ) ∧ (x = 0 → Y143 d Q 21 lv st σ) := yX_at (.ifCond .ne 6, 3, 24, 0, 0, 0, []) rfl
theorem g143_21  : Y143 d Q 21 lv st σ ↔ Y143 d Q 23 lv (.int (-2) :: st) σ := by
  rw [show (-2 : Int32) = (Int8.ofInt (-2)).toInt32 from by decide]
  exact yX_at (.bipush (-2), 2, 0, 0, 0, 0, []) rfl
theorem g143_23 {x : Int32} : Y143 d Q 23 lv [.int x] σ ↔ Q (some (.int x)) σ := yX_at (.ireturn, 1, 0, 0, 0, 0, []) rfl
theorem g143_24  : Y143 d Q 24 lv st σ ↔ zldR lv 0 (fun x => Y143 d Q 25 lv (.ref x :: st) σ) := yX_at (.aload_n 0, 1, 0, 0, 0, 0, []) rfl
theorem g143_25  : Y143 d Q 25 lv st σ ↔ Y143 d Q 27 lv (.int 100 :: st) σ := yX_at (.bipush 100, 2, 0, 0, 0, 0, []) rfl
theorem g143_27  : Y143 d Q 27 lv st σ ↔ Y143 d Q 28 lv (.int 1 :: st) σ := yX_at (.iconst 1, 1, 0, 0, 0, 0, []) rfl
theorem g143_28  : Y143 d Q 28 lv st σ ↔ zldI lv 1 (fun x => Y143 d Q 29 lv (.int x :: st) σ) := yX_at (.iload_n 1, 1, 0, 0, 0, 0, []) rfl
theorem g143_29 {x y : Int32} : Y143 d Q 29 lv (.int y :: .int x :: st) σ ↔ Y143 d Q 30 lv (.int (x + y) :: st) σ := yX_at (.iadd, 1, 0, 0, 0, 0, []) rfl
theorem g143_30 {x y : Int32} : Y143 d Q 30 lv (.int y :: .int x :: st) σ ↔ Y143 d Q 31 lv (.int (x * y) :: st) σ := yX_at (.imul, 1, 0, 0, 0, 0, []) rfl
theorem g143_31  : Y143 d Q 31 lv st σ ↔ Y143 d Q 32 lv (.int 0 :: st) σ := yX_at (.iconst 0, 1, 0, 0, 0, 0, []) rfl
theorem g143_32 {v0 v1 : Value} {c : Nat} : Y143 d Q 32 lv (v1 :: v0 :: .ref c :: st) σ ↔ (zrcv 7 c ∧ zrm st) ∧ ∃ rv σ', yE d 141 [.ref c, v0, v1] σ rv σ' ∧ Y143 d Q 35 lv (rv.toList ++ st) σ' := yX_at (.invokevirtual 244, 3, 141, 2, 266, 0, []) rfl
theorem g143_35  : Y143 d Q 35 lv st σ ↔ zldR lv 0 (fun x => Y143 d Q 36 lv (.ref x :: st) σ) := yX_at (.aload_n 0, 1, 0, 0, 0, 0, []) rfl
theorem g143_36 {c : Nat} : Y143 d Q 36 lv (.ref c :: st) σ ↔ zK c = 7 ∧ Y143 d Q 39 lv (zfv σ c 0 :: st) σ := yX_at (.getfield 7, 3, 7, 0, 220, 0, []) rfl
theorem g143_39  : Y143 d Q 39 lv st σ ↔ Y143 d Q 40 lv (.int 0 :: st) σ := yX_at (.iconst 0, 1, 0, 0, 0, 0, []) rfl
theorem g143_40 {j : Int32} {c : Nat} : Y143 d Q 40 lv (.int j :: .ref c :: st) σ ↔ (zK c = 100 ∧ vp_in j (zLn c)) ∧ Y143 d Q 41 lv (.int (σ.1 c j.toNatClampNeg) :: st) σ := yX_at (.iaload, 1, 0, 0, 0, 0, []) rfl
theorem g143_41 {x : Int32} : Y143 d Q 41 lv [.int x] σ ↔ Q (some (.int x)) σ := yX_at (.ireturn, 1, 0, 0, 0, 0, []) rfl
end G143
def Y144 (d : Nat) (Q : Option Value → zSt → Prop) (pc : Nat) (lv : zLv) (st : List Value) (σ : zSt) : Prop := yX (yE d) ySn zt144 Q pc lv st σ
theorem C144 {d : Nat} {as : List Value} {σ : zSt} {P : Option Value → zSt → Prop} (hl : (lg_sl as).length ≤ 2) (h : Y144 d P 0 (lv_args 0 as) [] σ) : yC (d + 1) 144 as σ P := yC_of (by decide) hl h
section G144
variable {d : Nat} {Q : Option Value → zSt → Prop} {lv : zLv} {st : List Value} {σ : zSt}
theorem g144_0  : Y144 d Q 0 lv st σ ↔ zldI lv 1 (fun x => Y144 d Q 1 lv (.int x :: st) σ) := yX_at (.iload_n 1, 1, 0, 0, 0, 0, []) rfl
theorem g144_1 {x : Int32} : Y144 d Q 1 lv (.int x :: st) σ ↔ (x = 0 → Y144 d Q 36 lv st σ) ∧ (¬ x = 0 → ((x = 1 → Y144 d Q 41 lv st σ) ∧ (¬ x = 1 → ((x = 2 → Y144 d Q 46 lv st σ) ∧ (¬ x = 2 → ((x = 3 → Y144 d Q 51 lv st σ) ∧ (¬ x = 3 → ((x = 4 → Y144 d Q 56 lv st σ) ∧ (¬ x = 4 → (Y144 d Q 61 lv st σ)))))))))) := yX_at (.tableswitch 60 0 4 #[35, 40, 45, 50, 55], 35, 61, 0, 0, 0, [(0, 36), (1, 41), (2, 46), (3, 51), (4, 56)]) rfl
theorem g144_36  : Y144 d Q 36 lv st σ ↔ zldR lv 0 (fun x => Y144 d Q 37 lv (.ref x :: st) σ) := yX_at (.aload_n 0, 1, 0, 0, 0, 0, []) rfl
theorem g144_37 {c : Nat} : Y144 d Q 37 lv (.ref c :: st) σ ↔ zK c = 7 ∧ Y144 d Q 40 lv (zfv σ c 2 :: st) σ := yX_at (.getfield 63, 3, 7, 2, 185, 0, []) rfl
theorem g144_40 {x : Int32} : Y144 d Q 40 lv [.int x] σ ↔ Q (some (.int x)) σ := yX_at (.ireturn, 1, 0, 0, 0, 0, []) rfl
theorem g144_41  : Y144 d Q 41 lv st σ ↔ zldR lv 0 (fun x => Y144 d Q 42 lv (.ref x :: st) σ) := yX_at (.aload_n 0, 1, 0, 0, 0, 0, []) rfl
theorem g144_42 {c : Nat} : Y144 d Q 42 lv (.ref c :: st) σ ↔ zK c = 7 ∧ Y144 d Q 45 lv (zfv σ c 6 :: st) σ := yX_at (.getfield 71, 3, 7, 6, 187, 0, []) rfl
theorem g144_45 {x : Int32} : Y144 d Q 45 lv [.int x] σ ↔ Q (some (.int x)) σ := yX_at (.ireturn, 1, 0, 0, 0, 0, []) rfl
theorem g144_46  : Y144 d Q 46 lv st σ ↔ zldR lv 0 (fun x => Y144 d Q 47 lv (.ref x :: st) σ) := yX_at (.aload_n 0, 1, 0, 0, 0, 0, []) rfl
theorem g144_47 {c : Nat} : Y144 d Q 47 lv (.ref c :: st) σ ↔ zK c = 7 ∧ Y144 d Q 50 lv (zfv σ c 8 :: st) σ := yX_at (.getfield 133, 3, 7, 8, 218, 0, []) rfl
theorem g144_50 {x : Int32} : Y144 d Q 50 lv [.int x] σ ↔ Q (some (.int x)) σ := yX_at (.ireturn, 1, 0, 0, 0, 0, []) rfl
theorem g144_51  : Y144 d Q 51 lv st σ ↔ zldR lv 0 (fun x => Y144 d Q 52 lv (.ref x :: st) σ) := yX_at (.aload_n 0, 1, 0, 0, 0, 0, []) rfl
theorem g144_52 {c : Nat} : Y144 d Q 52 lv (.ref c :: st) σ ↔ (zrcv 7 c ∧ zrm st) ∧ ∃ rv σ', yE d 127 [.ref c] σ rv σ' ∧ Y144 d Q 55 lv (rv.toList ++ st) σ' := yX_at (.invokevirtual 199, 3, 127, 0, 244, 0, []) rfl
theorem g144_55 {x : Int32} : Y144 d Q 55 lv [.int x] σ ↔ Q (some (.int x)) σ := yX_at (.ireturn, 1, 0, 0, 0, 0, []) rfl
theorem g144_56  : Y144 d Q 56 lv st σ ↔ zldR lv 0 (fun x => Y144 d Q 57 lv (.ref x :: st) σ) := yX_at (.aload_n 0, 1, 0, 0, 0, 0, []) rfl
theorem g144_57 {c : Nat} : Y144 d Q 57 lv (.ref c :: st) σ ↔ zK c = 7 ∧ Y144 d Q 60 lv (zfv σ c 15 :: st) σ := yX_at (.getfield 76, 3, 7, 15, 189, 0, []) rfl
theorem g144_60 {x : Int32} : Y144 d Q 60 lv [.int x] σ ↔ Q (some (.int x)) σ := yX_at (.ireturn, 1, 0, 0, 0, 0, []) rfl
theorem g144_61  : Y144 d Q 61 lv st σ ↔ Y144 d Q 62 lv (.int (-1) :: st) σ := by
  rw [show (-1 : Int32) = Int32.ofInt (-1) from by decide]
  exact yX_at (.iconst (-1), 1, 0, 0, 0, 0, []) rfl
theorem g144_62 {x : Int32} : Y144 d Q 62 lv [.int x] σ ↔ Q (some (.int x)) σ := yX_at (.ireturn, 1, 0, 0, 0, 0, []) rfl
end G144
def Y145 (d : Nat) (Q : Option Value → zSt → Prop) (pc : Nat) (lv : zLv) (st : List Value) (σ : zSt) : Prop := yX (yE d) ySn zt145 Q pc lv st σ
theorem C145 {d : Nat} {as : List Value} {σ : zSt} {P : Option Value → zSt → Prop} (hl : (lg_sl as).length ≤ 1) (h : Y145 d P 0 (lv_args 0 as) [] σ) : yC (d + 1) 145 as σ P := yC_of (by decide) hl h
section G145
variable {d : Nat} {Q : Option Value → zSt → Prop} {lv : zLv} {st : List Value} {σ : zSt}
theorem g145_0  : Y145 d Q 0 lv st σ ↔ zldR lv 0 (fun x => Y145 d Q 1 lv (.ref x :: st) σ) := yX_at (.aload_n 0, 1, 0, 0, 0, 0, []) rfl
theorem g145_1 {c : Nat} : Y145 d Q 1 lv (.ref c :: st) σ ↔ zK c = 7 ∧ Y145 d Q 4 lv (zfv σ c 16 :: st) σ := yX_at (.getfield 232, 3, 7, 16, 261, 0, []) rfl
theorem g145_4 {x : Int64} : Y145 d Q 4 lv [.long x] σ ↔ Q (some (.long x)) σ := yX_at (.lreturn, 1, 0, 0, 0, 0, []) rfl
end G145
def Y146 (d : Nat) (Q : Option Value → zSt → Prop) (pc : Nat) (lv : zLv) (st : List Value) (σ : zSt) : Prop := yX (yE d) ySn zt146 Q pc lv st σ
theorem C146 {d : Nat} {as : List Value} {σ : zSt} {P : Option Value → zSt → Prop} (hl : (lg_sl as).length ≤ 1) (h : Y146 d P 0 (lv_args 0 as) [] σ) : yC (d + 1) 146 as σ P := yC_of (by decide) hl h
section G146
variable {d : Nat} {Q : Option Value → zSt → Prop} {lv : zLv} {st : List Value} {σ : zSt}
theorem g146_0  : Y146 d Q 0 lv st σ ↔ zldI lv 0 (fun x => Y146 d Q 1 lv (.int x :: st) σ) := yX_at (.iload_n 0, 1, 0, 0, 0, 0, []) rfl
theorem g146_1  : Y146 d Q 1 lv st σ ↔ zldI lv 0 (fun x => Y146 d Q 2 lv (.int x :: st) σ) := yX_at (.iload_n 0, 1, 0, 0, 0, 0, []) rfl
theorem g146_2  : Y146 d Q 2 lv st σ ↔ Y146 d Q 3 lv (.int 1 :: st) σ := yX_at (.iconst 1, 1, 0, 0, 0, 0, []) rfl
theorem g146_3 {x y : Int32} : Y146 d Q 3 lv (.int y :: .int x :: st) σ ↔ Y146 d Q 4 lv (.int ((x.toUInt32 >>> (y.toUInt32 &&& Int32.toUInt32 31)).toInt32) :: st) σ := yX_at (.iushr, 1, 0, 0, 0, 0, []) rfl
theorem g146_4  : Y146 d Q 4 lv st σ ↔ Y146 d Q 7 lv (.int 1431655765 :: st) σ := yX_at (.ldc_w 265, 3, 0, 0, 267, 1431655765, []) rfl
theorem g146_7 {x y : Int32} : Y146 d Q 7 lv (.int y :: .int x :: st) σ ↔ Y146 d Q 8 lv (.int (x &&& y) :: st) σ := yX_at (.iand, 1, 0, 0, 0, 0, []) rfl
theorem g146_8 {x y : Int32} : Y146 d Q 8 lv (.int y :: .int x :: st) σ ↔ Y146 d Q 9 lv (.int (x - y) :: st) σ := yX_at (.isub, 1, 0, 0, 0, 0, []) rfl
theorem g146_9 {x : Int32} : Y146 d Q 9 lv (.int x :: st) σ ↔ Y146 d Q 10 (zs1 0 (.int x) lv) st σ := yX_at (.istore_n 0, 1, 0, 0, 0, 0, []) rfl
theorem g146_10  : Y146 d Q 10 lv st σ ↔ zldI lv 0 (fun x => Y146 d Q 11 lv (.int x :: st) σ) := yX_at (.iload_n 0, 1, 0, 0, 0, 0, []) rfl
theorem g146_11  : Y146 d Q 11 lv st σ ↔ Y146 d Q 14 lv (.int 858993459 :: st) σ := yX_at (.ldc_w 266, 3, 0, 0, 268, 858993459, []) rfl
theorem g146_14 {x y : Int32} : Y146 d Q 14 lv (.int y :: .int x :: st) σ ↔ Y146 d Q 15 lv (.int (x &&& y) :: st) σ := yX_at (.iand, 1, 0, 0, 0, 0, []) rfl
theorem g146_15  : Y146 d Q 15 lv st σ ↔ zldI lv 0 (fun x => Y146 d Q 16 lv (.int x :: st) σ) := yX_at (.iload_n 0, 1, 0, 0, 0, 0, []) rfl
theorem g146_16  : Y146 d Q 16 lv st σ ↔ Y146 d Q 17 lv (.int 2 :: st) σ := yX_at (.iconst 2, 1, 0, 0, 0, 0, []) rfl
theorem g146_17 {x y : Int32} : Y146 d Q 17 lv (.int y :: .int x :: st) σ ↔ Y146 d Q 18 lv (.int ((x.toUInt32 >>> (y.toUInt32 &&& Int32.toUInt32 31)).toInt32) :: st) σ := yX_at (.iushr, 1, 0, 0, 0, 0, []) rfl
theorem g146_18  : Y146 d Q 18 lv st σ ↔ Y146 d Q 21 lv (.int 858993459 :: st) σ := yX_at (.ldc_w 266, 3, 0, 0, 268, 858993459, []) rfl
theorem g146_21 {x y : Int32} : Y146 d Q 21 lv (.int y :: .int x :: st) σ ↔ Y146 d Q 22 lv (.int (x &&& y) :: st) σ := yX_at (.iand, 1, 0, 0, 0, 0, []) rfl
theorem g146_22 {x y : Int32} : Y146 d Q 22 lv (.int y :: .int x :: st) σ ↔ Y146 d Q 23 lv (.int (x + y) :: st) σ := yX_at (.iadd, 1, 0, 0, 0, 0, []) rfl
theorem g146_23 {x : Int32} : Y146 d Q 23 lv (.int x :: st) σ ↔ Y146 d Q 24 (zs1 0 (.int x) lv) st σ := yX_at (.istore_n 0, 1, 0, 0, 0, 0, []) rfl
theorem g146_24  : Y146 d Q 24 lv st σ ↔ zldI lv 0 (fun x => Y146 d Q 25 lv (.int x :: st) σ) := yX_at (.iload_n 0, 1, 0, 0, 0, 0, []) rfl
theorem g146_25  : Y146 d Q 25 lv st σ ↔ zldI lv 0 (fun x => Y146 d Q 26 lv (.int x :: st) σ) := yX_at (.iload_n 0, 1, 0, 0, 0, 0, []) rfl
theorem g146_26  : Y146 d Q 26 lv st σ ↔ Y146 d Q 27 lv (.int 4 :: st) σ := yX_at (.iconst 4, 1, 0, 0, 0, 0, []) rfl
theorem g146_27 {x y : Int32} : Y146 d Q 27 lv (.int y :: .int x :: st) σ ↔ Y146 d Q 28 lv (.int ((x.toUInt32 >>> (y.toUInt32 &&& Int32.toUInt32 31)).toInt32) :: st) σ := yX_at (.iushr, 1, 0, 0, 0, 0, []) rfl
theorem g146_28 {x y : Int32} : Y146 d Q 28 lv (.int y :: .int x :: st) σ ↔ Y146 d Q 29 lv (.int (x + y) :: st) σ := yX_at (.iadd, 1, 0, 0, 0, 0, []) rfl
theorem g146_29  : Y146 d Q 29 lv st σ ↔ Y146 d Q 32 lv (.int 252645135 :: st) σ := yX_at (.ldc_w 267, 3, 0, 0, 269, 252645135, []) rfl
theorem g146_32 {x y : Int32} : Y146 d Q 32 lv (.int y :: .int x :: st) σ ↔ Y146 d Q 33 lv (.int (x &&& y) :: st) σ := yX_at (.iand, 1, 0, 0, 0, 0, []) rfl
theorem g146_33 {x : Int32} : Y146 d Q 33 lv (.int x :: st) σ ↔ Y146 d Q 34 (zs1 0 (.int x) lv) st σ := yX_at (.istore_n 0, 1, 0, 0, 0, 0, []) rfl
theorem g146_34  : Y146 d Q 34 lv st σ ↔ zldI lv 0 (fun x => Y146 d Q 35 lv (.int x :: st) σ) := yX_at (.iload_n 0, 1, 0, 0, 0, 0, []) rfl
theorem g146_35  : Y146 d Q 35 lv st σ ↔ zldI lv 0 (fun x => Y146 d Q 36 lv (.int x :: st) σ) := yX_at (.iload_n 0, 1, 0, 0, 0, 0, []) rfl
theorem g146_36  : Y146 d Q 36 lv st σ ↔ Y146 d Q 38 lv (.int 8 :: st) σ := yX_at (.bipush 8, 2, 0, 0, 0, 0, []) rfl
theorem g146_38 {x y : Int32} : Y146 d Q 38 lv (.int y :: .int x :: st) σ ↔ Y146 d Q 39 lv (.int ((x.toUInt32 >>> (y.toUInt32 &&& Int32.toUInt32 31)).toInt32) :: st) σ := yX_at (.iushr, 1, 0, 0, 0, 0, []) rfl
theorem g146_39 {x y : Int32} : Y146 d Q 39 lv (.int y :: .int x :: st) σ ↔ Y146 d Q 40 lv (.int (x + y) :: st) σ := yX_at (.iadd, 1, 0, 0, 0, 0, []) rfl
theorem g146_40 {x : Int32} : Y146 d Q 40 lv (.int x :: st) σ ↔ Y146 d Q 41 (zs1 0 (.int x) lv) st σ := yX_at (.istore_n 0, 1, 0, 0, 0, 0, []) rfl
theorem g146_41  : Y146 d Q 41 lv st σ ↔ zldI lv 0 (fun x => Y146 d Q 42 lv (.int x :: st) σ) := yX_at (.iload_n 0, 1, 0, 0, 0, 0, []) rfl
theorem g146_42  : Y146 d Q 42 lv st σ ↔ zldI lv 0 (fun x => Y146 d Q 43 lv (.int x :: st) σ) := yX_at (.iload_n 0, 1, 0, 0, 0, 0, []) rfl
theorem g146_43  : Y146 d Q 43 lv st σ ↔ Y146 d Q 45 lv (.int 16 :: st) σ := yX_at (.bipush 16, 2, 0, 0, 0, 0, []) rfl
theorem g146_45 {x y : Int32} : Y146 d Q 45 lv (.int y :: .int x :: st) σ ↔ Y146 d Q 46 lv (.int ((x.toUInt32 >>> (y.toUInt32 &&& Int32.toUInt32 31)).toInt32) :: st) σ := yX_at (.iushr, 1, 0, 0, 0, 0, []) rfl
theorem g146_46 {x y : Int32} : Y146 d Q 46 lv (.int y :: .int x :: st) σ ↔ Y146 d Q 47 lv (.int (x + y) :: st) σ := yX_at (.iadd, 1, 0, 0, 0, 0, []) rfl
theorem g146_47 {x : Int32} : Y146 d Q 47 lv (.int x :: st) σ ↔ Y146 d Q 48 (zs1 0 (.int x) lv) st σ := yX_at (.istore_n 0, 1, 0, 0, 0, 0, []) rfl
theorem g146_48  : Y146 d Q 48 lv st σ ↔ zldI lv 0 (fun x => Y146 d Q 49 lv (.int x :: st) σ) := yX_at (.iload_n 0, 1, 0, 0, 0, 0, []) rfl
theorem g146_49  : Y146 d Q 49 lv st σ ↔ Y146 d Q 51 lv (.int 63 :: st) σ := yX_at (.bipush 63, 2, 0, 0, 0, 0, []) rfl
theorem g146_51 {x y : Int32} : Y146 d Q 51 lv (.int y :: .int x :: st) σ ↔ Y146 d Q 52 lv (.int (x &&& y) :: st) σ := yX_at (.iand, 1, 0, 0, 0, 0, []) rfl
theorem g146_52 {x : Int32} : Y146 d Q 52 lv [.int x] σ ↔ Q (some (.int x)) σ := yX_at (.ireturn, 1, 0, 0, 0, 0, []) rfl
end G146
def Y147 (d : Nat) (Q : Option Value → zSt → Prop) (pc : Nat) (lv : zLv) (st : List Value) (σ : zSt) : Prop := yX (yE d) ySn zt147 Q pc lv st σ
theorem C147 {d : Nat} {as : List Value} {σ : zSt} {P : Option Value → zSt → Prop} (hl : (lg_sl as).length ≤ 4) (h : Y147 d P 0 (lv_args 0 as) [] σ) : yC (d + 1) 147 as σ P := yC_of (by decide) hl h
section G147
variable {d : Nat} {Q : Option Value → zSt → Prop} {lv : zLv} {st : List Value} {σ : zSt}
theorem g147_0  : Y147 d Q 0 lv st σ ↔ Y147 d Q 1 lv (.int 0 :: st) σ := yX_at (.iconst 0, 1, 0, 0, 0, 0, []) rfl
theorem g147_1 {x : Int32} : Y147 d Q 1 lv (.int x :: st) σ ↔ Y147 d Q 2 (zs1 2 (.int x) lv) st σ := yX_at (.istore_n 2, 1, 0, 0, 0, 0, []) rfl
theorem g147_2  : Y147 d Q 2 lv st σ ↔ zldR lv 0 (fun x => Y147 d Q 3 lv (.ref x :: st) σ) := yX_at (.aload_n 0, 1, 0, 0, 0, 0, []) rfl
theorem g147_3 {c : Nat} : Y147 d Q 3 lv (.ref c :: st) σ ↔ zK c = 100 ∧ Y147 d Q 4 lv (.int (Int32.ofNat (zLn c)) :: st) σ := yX_at (.arraylength, 1, 0, 0, 0, 0, []) rfl
theorem g147_4 {x : Int32} : Y147 d Q 4 lv (.int x :: st) σ ↔ Y147 d Q 5 (zs1 3 (.int x) lv) st σ := yX_at (.istore_n 3, 1, 0, 0, 0, 0, []) rfl
theorem g147_5  : Y147 d Q 5 lv st σ ↔ zldI lv 2 (fun x => Y147 d Q 6 lv (.int x :: st) σ) := yX_at (.iload_n 2, 1, 0, 0, 0, 0, []) rfl
theorem g147_6  : Y147 d Q 6 lv st σ ↔ zldI lv 3 (fun x => Y147 d Q 7 lv (.int x :: st) σ) := yX_at (.iload_n 3, 1, 0, 0, 0, 0, []) rfl
theorem g147_7 {x y : Int32} : Y147 d Q 7 lv (.int y :: .int x :: st) σ ↔ (y ≤ x → Y147 d Q 20 lv st σ) ∧ (¬ y ≤ x → Y147 d Q 10 lv st σ) := yX_at (.if_icmp .ge 13, 3, 20, 0, 0, 0, []) rfl
theorem g147_10  : Y147 d Q 10 lv st σ ↔ zldR lv 0 (fun x => Y147 d Q 11 lv (.ref x :: st) σ) := yX_at (.aload_n 0, 1, 0, 0, 0, 0, []) rfl
theorem g147_11  : Y147 d Q 11 lv st σ ↔ zldI lv 2 (fun x => Y147 d Q 12 lv (.int x :: st) σ) := yX_at (.iload_n 2, 1, 0, 0, 0, 0, []) rfl
theorem g147_12  : Y147 d Q 12 lv st σ ↔ zldI lv 1 (fun x => Y147 d Q 13 lv (.int x :: st) σ) := yX_at (.iload_n 1, 1, 0, 0, 0, 0, []) rfl
theorem g147_13 {x j : Int32} {c : Nat} : Y147 d Q 13 lv (.int x :: .int j :: .ref c :: st) σ ↔ (zK c = 100 ∧ vp_in j (zLn c)) ∧ Y147 d Q 14 lv st (zwI σ c j.toNatClampNeg x) := yX_at (.iastore, 1, 0, 0, 0, 0, []) rfl
theorem g147_14  : Y147 d Q 14 lv st σ ↔ zldI lv 2 (fun x => Y147 d Q 17 (zs1 2 (.int (x + 1)) lv) st σ) := yX_at (.iinc 2 1, 3, 0, 0, 0, 0, []) rfl
theorem g147_17  : Y147 d Q 17 lv st σ ↔ Y147 d Q 5 lv st σ := yX_at (.goto (-12), 3, 5, 0, 0, 0, []) rfl
theorem g147_20  : Y147 d Q 20 lv [] σ ↔ Q none σ := yX_at (.return_, 1, 0, 0, 0, 0, []) rfl
end G147
