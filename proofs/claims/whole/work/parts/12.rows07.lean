def Y123 (d : Nat) (Q : Option Value → zSt → Prop) (pc : Nat) (lv : zLv) (st : List Value) (σ : zSt) : Prop := yX (yE d) ySn zt123 Q pc lv st σ
theorem C123 {d : Nat} {as : List Value} {σ : zSt} {P : Option Value → zSt → Prop} (hl : (lg_sl as).length ≤ 4) (h : Y123 d P 0 (lv_args 0 as) [] σ) : yC (d + 1) 123 as σ P := yC_of (by decide) hl h
section G123
variable {d : Nat} {Q : Option Value → zSt → Prop} {lv : zLv} {st : List Value} {σ : zSt}
theorem g123_0  : Y123 d Q 0 lv st σ ↔ Y123 d Q 1 lv (.int 0 :: st) σ := yX_at (.iconst 0, 1, 0, 0, 0, 0, []) rfl
theorem g123_1 {x : Int32} : Y123 d Q 1 lv (.int x :: st) σ ↔ Y123 d Q 2 (zs1 2 (.int x) lv) st σ := yX_at (.istore_n 2, 1, 0, 0, 0, 0, []) rfl
theorem g123_2  : Y123 d Q 2 lv st σ ↔ Y123 d Q 3 lv (.int 0 :: st) σ := yX_at (.iconst 0, 1, 0, 0, 0, 0, []) rfl
theorem g123_3 {x : Int32} : Y123 d Q 3 lv (.int x :: st) σ ↔ Y123 d Q 4 (zs1 3 (.int x) lv) st σ := yX_at (.istore_n 3, 1, 0, 0, 0, 0, []) rfl
theorem g123_4  : Y123 d Q 4 lv st σ ↔ zldI lv 3 (fun x => Y123 d Q 5 lv (.int x :: st) σ) := yX_at (.iload_n 3, 1, 0, 0, 0, 0, []) rfl
theorem g123_5  : Y123 d Q 5 lv st σ ↔ zldR lv 0 (fun x => Y123 d Q 6 lv (.ref x :: st) σ) := yX_at (.aload_n 0, 1, 0, 0, 0, 0, []) rfl
theorem g123_6 {c : Nat} : Y123 d Q 6 lv (.ref c :: st) σ ↔ zK c = 7 ∧ Y123 d Q 9 lv (zfv σ c 6 :: st) σ := yX_at (.getfield 71, 3, 7, 6, 187, 0, []) rfl
theorem g123_9 {x y : Int32} : Y123 d Q 9 lv (.int y :: .int x :: st) σ ↔ (y ≤ x → Y123 d Q 43 lv st σ) ∧ (¬ y ≤ x → Y123 d Q 12 lv st σ) := yX_at (.if_icmp .ge 34, 3, 43, 0, 0, 0, []) rfl
theorem g123_12  : Y123 d Q 12 lv st σ ↔ zldI lv 2 (fun x => Y123 d Q 13 lv (.int x :: st) σ) := yX_at (.iload_n 2, 1, 0, 0, 0, 0, []) rfl
theorem g123_13  : Y123 d Q 13 lv st σ ↔ zldI lv 1 (fun x => Y123 d Q 14 lv (.int x :: st) σ) := yX_at (.iload_n 1, 1, 0, 0, 0, 0, []) rfl
theorem g123_14  : Y123 d Q 14 lv st σ ↔ zldI lv 3 (fun x => Y123 d Q 15 lv (.int x :: st) σ) := yX_at (.iload_n 3, 1, 0, 0, 0, 0, []) rfl
theorem g123_15 {v0 v1 : Value} : Y123 d Q 15 lv (v1 :: v0 :: st) σ ↔ zrm st ∧ ∃ rv σ', yE d 92 [v0, v1] σ rv σ' ∧ Y123 d Q 18 lv (rv.toList ++ st) σ' := yX_at (.invokestatic 176, 3, 92, 2, 234, 0, []) rfl
theorem g123_18 {x : Int32} : Y123 d Q 18 lv (.int x :: st) σ ↔ (x = 0 → Y123 d Q 34 lv st σ) ∧ (¬ x = 0 → Y123 d Q 21 lv st σ) := yX_at (.ifCond .eq 16, 3, 34, 0, 0, 0, []) rfl
theorem g123_21  : Y123 d Q 21 lv st σ ↔ zldR lv 0 (fun x => Y123 d Q 22 lv (.ref x :: st) σ) := yX_at (.aload_n 0, 1, 0, 0, 0, 0, []) rfl
theorem g123_22 {c : Nat} : Y123 d Q 22 lv (.ref c :: st) σ ↔ zK c = 7 ∧ Y123 d Q 25 lv (zfv σ c 7 :: st) σ := yX_at (.getfield 26, 3, 7, 7, 217, 0, []) rfl
theorem g123_25  : Y123 d Q 25 lv st σ ↔ Y123 d Q 26 lv (.int 5 :: st) σ := yX_at (.iconst 5, 1, 0, 0, 0, 0, []) rfl
theorem g123_26  : Y123 d Q 26 lv st σ ↔ zldI lv 3 (fun x => Y123 d Q 27 lv (.int x :: st) σ) := yX_at (.iload_n 3, 1, 0, 0, 0, 0, []) rfl
theorem g123_27 {x y : Int32} : Y123 d Q 27 lv (.int y :: .int x :: st) σ ↔ Y123 d Q 28 lv (.int (x * y) :: st) σ := yX_at (.imul, 1, 0, 0, 0, 0, []) rfl
theorem g123_28  : Y123 d Q 28 lv st σ ↔ Y123 d Q 29 lv (.int 3 :: st) σ := yX_at (.iconst 3, 1, 0, 0, 0, 0, []) rfl
theorem g123_29 {x y : Int32} : Y123 d Q 29 lv (.int y :: .int x :: st) σ ↔ Y123 d Q 30 lv (.int (x + y) :: st) σ := yX_at (.iadd, 1, 0, 0, 0, 0, []) rfl
theorem g123_30 {j : Int32} {c : Nat} : Y123 d Q 30 lv (.int j :: .ref c :: st) σ ↔ (zK c = 100 ∧ vp_in j (zLn c)) ∧ Y123 d Q 31 lv (.int (σ.1 c j.toNatClampNeg) :: st) σ := yX_at (.iaload, 1, 0, 0, 0, 0, []) rfl
theorem g123_31  : Y123 d Q 31 lv st σ ↔ Y123 d Q 35 lv st σ := yX_at (.goto 4, 3, 35, 0, 0, 0, []) rfl
theorem g123_34  : Y123 d Q 34 lv st σ ↔ Y123 d Q 35 lv (.int 0 :: st) σ := yX_at (.iconst 0, 1, 0, 0, 0, 0, []) rfl
theorem g123_35 {x y : Int32} : Y123 d Q 35 lv (.int y :: .int x :: st) σ ↔ Y123 d Q 36 lv (.int (x + y) :: st) σ := yX_at (.iadd, 1, 0, 0, 0, 0, []) rfl
theorem g123_36 {x : Int32} : Y123 d Q 36 lv (.int x :: st) σ ↔ Y123 d Q 37 (zs1 2 (.int x) lv) st σ := yX_at (.istore_n 2, 1, 0, 0, 0, 0, []) rfl
theorem g123_37  : Y123 d Q 37 lv st σ ↔ zldI lv 3 (fun x => Y123 d Q 40 (zs1 3 (.int (x + 1)) lv) st σ) := yX_at (.iinc 3 1, 3, 0, 0, 0, 0, []) rfl
theorem g123_40  : Y123 d Q 40 lv st σ ↔ Y123 d Q 4 lv st σ := yX_at (.goto (-36), 3, 4, 0, 0, 0, []) rfl
theorem g123_43  : Y123 d Q 43 lv st σ ↔ zldI lv 2 (fun x => Y123 d Q 44 lv (.int x :: st) σ) := yX_at (.iload_n 2, 1, 0, 0, 0, 0, []) rfl
theorem g123_44 {x : Int32} : Y123 d Q 44 lv [.int x] σ ↔ Q (some (.int x)) σ := yX_at (.ireturn, 1, 0, 0, 0, 0, []) rfl
end G123
def Y124 (d : Nat) (Q : Option Value → zSt → Prop) (pc : Nat) (lv : zLv) (st : List Value) (σ : zSt) : Prop := yX (yE d) ySn zt124 Q pc lv st σ
theorem C124 {d : Nat} {as : List Value} {σ : zSt} {P : Option Value → zSt → Prop} (hl : (lg_sl as).length ≤ 7) (h : Y124 d P 0 (lv_args 0 as) [] σ) : yC (d + 1) 124 as σ P := yC_of (by decide) hl h
section G124
variable {d : Nat} {Q : Option Value → zSt → Prop} {lv : zLv} {st : List Value} {σ : zSt}
theorem g124_0  : Y124 d Q 0 lv st σ ↔ Y124 d Q 1 lv (.int 0 :: st) σ := yX_at (.iconst 0, 1, 0, 0, 0, 0, []) rfl
theorem g124_1 {x : Int32} : Y124 d Q 1 lv (.int x :: st) σ ↔ Y124 d Q 3 (zs1 4 (.int x) lv) st σ := yX_at (.istore 4, 2, 0, 0, 0, 0, []) rfl
theorem g124_3  : Y124 d Q 3 lv st σ ↔ Y124 d Q 4 lv (.int 0 :: st) σ := yX_at (.iconst 0, 1, 0, 0, 0, 0, []) rfl
theorem g124_4 {x : Int32} : Y124 d Q 4 lv (.int x :: st) σ ↔ Y124 d Q 6 (zs1 5 (.int x) lv) st σ := yX_at (.istore 5, 2, 0, 0, 0, 0, []) rfl
theorem g124_6  : Y124 d Q 6 lv st σ ↔ zldI lv 5 (fun x => Y124 d Q 8 lv (.int x :: st) σ) := yX_at (.iload 5, 2, 0, 0, 0, 0, []) rfl
theorem g124_8  : Y124 d Q 8 lv st σ ↔ zldR lv 0 (fun x => Y124 d Q 9 lv (.ref x :: st) σ) := yX_at (.aload_n 0, 1, 0, 0, 0, 0, []) rfl
theorem g124_9 {c : Nat} : Y124 d Q 9 lv (.ref c :: st) σ ↔ zK c = 7 ∧ Y124 d Q 12 lv (zfv σ c 6 :: st) σ := yX_at (.getfield 71, 3, 7, 6, 187, 0, []) rfl
theorem g124_12 {x y : Int32} : Y124 d Q 12 lv (.int y :: .int x :: st) σ ↔ (y ≤ x → Y124 d Q 67 lv st σ) ∧ (¬ y ≤ x → Y124 d Q 15 lv st σ) := yX_at (.if_icmp .ge 55, 3, 67, 0, 0, 0, []) rfl
theorem g124_15  : Y124 d Q 15 lv st σ ↔ zldI lv 4 (fun x => Y124 d Q 17 lv (.int x :: st) σ) := yX_at (.iload 4, 2, 0, 0, 0, 0, []) rfl
theorem g124_17  : Y124 d Q 17 lv st σ ↔ zldR lv 0 (fun x => Y124 d Q 18 lv (.ref x :: st) σ) := yX_at (.aload_n 0, 1, 0, 0, 0, 0, []) rfl
theorem g124_18 {c : Nat} : Y124 d Q 18 lv (.ref c :: st) σ ↔ zK c = 7 ∧ Y124 d Q 21 lv (zfv σ c 7 :: st) σ := yX_at (.getfield 26, 3, 7, 7, 217, 0, []) rfl
theorem g124_21  : Y124 d Q 21 lv st σ ↔ Y124 d Q 22 lv (.int 5 :: st) σ := yX_at (.iconst 5, 1, 0, 0, 0, 0, []) rfl
theorem g124_22  : Y124 d Q 22 lv st σ ↔ zldI lv 5 (fun x => Y124 d Q 24 lv (.int x :: st) σ) := yX_at (.iload 5, 2, 0, 0, 0, 0, []) rfl
theorem g124_24 {x y : Int32} : Y124 d Q 24 lv (.int y :: .int x :: st) σ ↔ Y124 d Q 25 lv (.int (x * y) :: st) σ := yX_at (.imul, 1, 0, 0, 0, 0, []) rfl
theorem g124_25 {j : Int32} {c : Nat} : Y124 d Q 25 lv (.int j :: .ref c :: st) σ ↔ (zK c = 100 ∧ vp_in j (zLn c)) ∧ Y124 d Q 26 lv (.int (σ.1 c j.toNatClampNeg) :: st) σ := yX_at (.iaload, 1, 0, 0, 0, 0, []) rfl
theorem g124_26  : Y124 d Q 26 lv st σ ↔ zldI lv 1 (fun x => Y124 d Q 27 lv (.int x :: st) σ) := yX_at (.iload_n 1, 1, 0, 0, 0, 0, []) rfl
theorem g124_27 {x y : Int32} : Y124 d Q 27 lv (.int y :: .int x :: st) σ ↔ (¬ x = y → Y124 d Q 57 lv st σ) ∧ (x = y → Y124 d Q 30 lv st σ) := yX_at (.if_icmp .ne 30, 3, 57, 0, 0, 0, []) rfl
theorem g124_30  : Y124 d Q 30 lv st σ ↔ zldR lv 0 (fun x => Y124 d Q 31 lv (.ref x :: st) σ) := yX_at (.aload_n 0, 1, 0, 0, 0, 0, []) rfl
theorem g124_31 {c : Nat} : Y124 d Q 31 lv (.ref c :: st) σ ↔ zK c = 7 ∧ Y124 d Q 34 lv (zfv σ c 7 :: st) σ := yX_at (.getfield 26, 3, 7, 7, 217, 0, []) rfl
theorem g124_34  : Y124 d Q 34 lv st σ ↔ Y124 d Q 35 lv (.int 5 :: st) σ := yX_at (.iconst 5, 1, 0, 0, 0, 0, []) rfl
theorem g124_35  : Y124 d Q 35 lv st σ ↔ zldI lv 5 (fun x => Y124 d Q 37 lv (.int x :: st) σ) := yX_at (.iload 5, 2, 0, 0, 0, 0, []) rfl
theorem g124_37 {x y : Int32} : Y124 d Q 37 lv (.int y :: .int x :: st) σ ↔ Y124 d Q 38 lv (.int (x * y) :: st) σ := yX_at (.imul, 1, 0, 0, 0, 0, []) rfl
theorem g124_38  : Y124 d Q 38 lv st σ ↔ Y124 d Q 39 lv (.int 1 :: st) σ := yX_at (.iconst 1, 1, 0, 0, 0, 0, []) rfl
theorem g124_39 {x y : Int32} : Y124 d Q 39 lv (.int y :: .int x :: st) σ ↔ Y124 d Q 40 lv (.int (x + y) :: st) σ := yX_at (.iadd, 1, 0, 0, 0, 0, []) rfl
theorem g124_40 {j : Int32} {c : Nat} : Y124 d Q 40 lv (.int j :: .ref c :: st) σ ↔ (zK c = 100 ∧ vp_in j (zLn c)) ∧ Y124 d Q 41 lv (.int (σ.1 c j.toNatClampNeg) :: st) σ := yX_at (.iaload, 1, 0, 0, 0, 0, []) rfl
theorem g124_41  : Y124 d Q 41 lv st σ ↔ zldR lv 0 (fun x => Y124 d Q 42 lv (.ref x :: st) σ) := yX_at (.aload_n 0, 1, 0, 0, 0, 0, []) rfl
theorem g124_42 {c : Nat} : Y124 d Q 42 lv (.ref c :: st) σ ↔ zK c = 7 ∧ Y124 d Q 45 lv (zfv σ c 0 :: st) σ := yX_at (.getfield 7, 3, 7, 0, 220, 0, []) rfl
theorem g124_45  : Y124 d Q 45 lv st σ ↔ Y124 d Q 46 lv (.int 0 :: st) σ := yX_at (.iconst 0, 1, 0, 0, 0, 0, []) rfl
theorem g124_46 {j : Int32} {c : Nat} : Y124 d Q 46 lv (.int j :: .ref c :: st) σ ↔ (zK c = 100 ∧ vp_in j (zLn c)) ∧ Y124 d Q 47 lv (.int (σ.1 c j.toNatClampNeg) :: st) σ := yX_at (.iaload, 1, 0, 0, 0, 0, []) rfl
theorem g124_47 {x y : Int32} : Y124 d Q 47 lv (.int y :: .int x :: st) σ ↔ (x < y → Y124 d Q 57 lv st σ) ∧ (¬ x < y → Y124 d Q 50 lv st σ) := yX_at (.if_icmp .lt 10, 3, 57, 0, 0, 0, []) rfl
theorem g124_50  : Y124 d Q 50 lv st σ ↔ Y124 d Q 51 lv (.int 1 :: st) σ := yX_at (.iconst 1, 1, 0, 0, 0, 0, []) rfl
theorem g124_51  : Y124 d Q 51 lv st σ ↔ zldI lv 5 (fun x => Y124 d Q 53 lv (.int x :: st) σ) := yX_at (.iload 5, 2, 0, 0, 0, 0, []) rfl
theorem g124_53 {x y : Int32} : Y124 d Q 53 lv (.int y :: .int x :: st) σ ↔ Y124 d Q 54 lv (.int (x <<< (y &&& 31)) :: st) σ := yX_at (.ishl, 1, 0, 0, 0, 0, []) rfl
theorem g124_54  : Y124 d Q 54 lv st σ ↔ Y124 d Q 58 lv st σ := yX_at (.goto 4, 3, 58, 0, 0, 0, []) rfl
theorem g124_57  : Y124 d Q 57 lv st σ ↔ Y124 d Q 58 lv (.int 0 :: st) σ := yX_at (.iconst 0, 1, 0, 0, 0, 0, []) rfl
theorem g124_58 {x y : Int32} : Y124 d Q 58 lv (.int y :: .int x :: st) σ ↔ Y124 d Q 59 lv (.int (x ||| y) :: st) σ := yX_at (.ior, 1, 0, 0, 0, 0, []) rfl
theorem g124_59 {x : Int32} : Y124 d Q 59 lv (.int x :: st) σ ↔ Y124 d Q 61 (zs1 4 (.int x) lv) st σ := yX_at (.istore 4, 2, 0, 0, 0, 0, []) rfl
theorem g124_61  : Y124 d Q 61 lv st σ ↔ zldI lv 5 (fun x => Y124 d Q 64 (zs1 5 (.int (x + 1)) lv) st σ) := yX_at (.iinc 5 1, 3, 0, 0, 0, 0, []) rfl
theorem g124_64  : Y124 d Q 64 lv st σ ↔ Y124 d Q 6 lv st σ := yX_at (.goto (-58), 3, 6, 0, 0, 0, []) rfl
theorem g124_67  : Y124 d Q 67 lv st σ ↔ Y124 d Q 68 lv (.int 0 :: st) σ := yX_at (.iconst 0, 1, 0, 0, 0, 0, []) rfl
theorem g124_68 {x : Int32} : Y124 d Q 68 lv (.int x :: st) σ ↔ Y124 d Q 70 (zs1 5 (.int x) lv) st σ := yX_at (.istore 5, 2, 0, 0, 0, 0, []) rfl
theorem g124_70  : Y124 d Q 70 lv st σ ↔ Y124 d Q 71 lv (.int 1 :: st) σ := yX_at (.iconst 1, 1, 0, 0, 0, 0, []) rfl
theorem g124_71 {x : Int32} : Y124 d Q 71 lv (.int x :: st) σ ↔ Y124 d Q 73 (zs1 6 (.int x) lv) st σ := yX_at (.istore 6, 2, 0, 0, 0, 0, []) rfl
theorem g124_73  : Y124 d Q 73 lv st σ ↔ zldI lv 6 (fun x => Y124 d Q 75 lv (.int x :: st) σ) := yX_at (.iload 6, 2, 0, 0, 0, 0, []) rfl
theorem g124_75  : Y124 d Q 75 lv st σ ↔ zldI lv 4 (fun x => Y124 d Q 77 lv (.int x :: st) σ) := yX_at (.iload 4, 2, 0, 0, 0, 0, []) rfl
theorem g124_77 {x y : Int32} : Y124 d Q 77 lv (.int y :: .int x :: st) σ ↔ (y < x → Y124 d Q 126 lv st σ) ∧ (¬ y < x → Y124 d Q 80 lv st σ) := yX_at (.if_icmp .gt 49, 3, 126, 0, 0, 0, []) rfl
theorem g124_80  : Y124 d Q 80 lv st σ ↔ zldI lv 6 (fun x => Y124 d Q 82 lv (.int x :: st) σ) := yX_at (.iload 6, 2, 0, 0, 0, 0, []) rfl
theorem g124_82  : Y124 d Q 82 lv st σ ↔ zldI lv 4 (fun x => Y124 d Q 84 lv (.int x :: st) σ) := yX_at (.iload 4, 2, 0, 0, 0, 0, []) rfl
theorem g124_84  : Y124 d Q 84 lv st σ ↔ Y124 d Q 85 lv (.int (-1) :: st) σ := by
  rw [show (-1 : Int32) = Int32.ofInt (-1) from by decide]
  exact yX_at (.iconst (-1), 1, 0, 0, 0, 0, []) rfl
theorem g124_85 {x y : Int32} : Y124 d Q 85 lv (.int y :: .int x :: st) σ ↔ Y124 d Q 86 lv (.int (x ^^^ y) :: st) σ := yX_at (.ixor, 1, 0, 0, 0, 0, []) rfl
theorem g124_86 {x y : Int32} : Y124 d Q 86 lv (.int y :: .int x :: st) σ ↔ Y124 d Q 87 lv (.int (x &&& y) :: st) σ := yX_at (.iand, 1, 0, 0, 0, 0, []) rfl
theorem g124_87 {x : Int32} : Y124 d Q 87 lv (.int x :: st) σ ↔ (¬ x = 0 → Y124 d Q 120 lv st σ) ∧ (x = 0 → Y124 d Q 90 lv st σ) := yX_at (.ifCond .ne 33, 3, 120, 0, 0, 0, []) rfl
theorem g124_90  : Y124 d Q 90 lv st σ ↔ zldR lv 0 (fun x => Y124 d Q 91 lv (.ref x :: st) σ) := yX_at (.aload_n 0, 1, 0, 0, 0, 0, []) rfl
theorem g124_91  : Y124 d Q 91 lv st σ ↔ zldI lv 6 (fun x => Y124 d Q 93 lv (.int x :: st) σ) := yX_at (.iload 6, 2, 0, 0, 0, 0, []) rfl
theorem g124_93 {v0 : Value} {c : Nat} : Y124 d Q 93 lv (v0 :: .ref c :: st) σ ↔ (zrcv 7 c ∧ zrm st) ∧ ∃ rv σ', yE d 123 [.ref c, v0] σ rv σ' ∧ Y124 d Q 96 lv (rv.toList ++ st) σ' := yX_at (.invokevirtual 183, 3, 123, 1, 237, 0, []) rfl
theorem g124_96  : Y124 d Q 96 lv st σ ↔ zldR lv 0 (fun x => Y124 d Q 97 lv (.ref x :: st) σ) := yX_at (.aload_n 0, 1, 0, 0, 0, 0, []) rfl
theorem g124_97  : Y124 d Q 97 lv st σ ↔ zldI lv 5 (fun x => Y124 d Q 99 lv (.int x :: st) σ) := yX_at (.iload 5, 2, 0, 0, 0, 0, []) rfl
theorem g124_99 {v0 : Value} {c : Nat} : Y124 d Q 99 lv (v0 :: .ref c :: st) σ ↔ (zrcv 7 c ∧ zrm st) ∧ ∃ rv σ', yE d 123 [.ref c, v0] σ rv σ' ∧ Y124 d Q 102 lv (rv.toList ++ st) σ' := yX_at (.invokevirtual 183, 3, 123, 1, 237, 0, []) rfl
theorem g124_102 {x y : Int32} : Y124 d Q 102 lv (.int y :: .int x :: st) σ ↔ (x ≤ y → Y124 d Q 120 lv st σ) ∧ (¬ x ≤ y → Y124 d Q 105 lv st σ) := yX_at (.if_icmp .le 18, 3, 120, 0, 0, 0, []) rfl
theorem g124_105  : Y124 d Q 105 lv st σ ↔ zldR lv 0 (fun x => Y124 d Q 106 lv (.ref x :: st) σ) := yX_at (.aload_n 0, 1, 0, 0, 0, 0, []) rfl
theorem g124_106  : Y124 d Q 106 lv st σ ↔ zldI lv 6 (fun x => Y124 d Q 108 lv (.int x :: st) σ) := yX_at (.iload 6, 2, 0, 0, 0, 0, []) rfl
theorem g124_108  : Y124 d Q 108 lv st σ ↔ zldI lv 2 (fun x => Y124 d Q 109 lv (.int x :: st) σ) := yX_at (.iload_n 2, 1, 0, 0, 0, 0, []) rfl
theorem g124_109  : Y124 d Q 109 lv st σ ↔ zldI lv 3 (fun x => Y124 d Q 110 lv (.int x :: st) σ) := yX_at (.iload_n 3, 1, 0, 0, 0, 0, []) rfl
theorem g124_110 {v0 v1 v2 : Value} {c : Nat} : Y124 d Q 110 lv (v2 :: v1 :: v0 :: .ref c :: st) σ ↔ (zrcv 7 c ∧ zrm st) ∧ ∃ rv σ', yE d 122 [.ref c, v0, v1, v2] σ rv σ' ∧ Y124 d Q 113 lv (rv.toList ++ st) σ' := yX_at (.invokevirtual 186, 3, 122, 3, 238, 0, []) rfl
theorem g124_113 {x : Int32} : Y124 d Q 113 lv (.int x :: st) σ ↔ (x = 0 → Y124 d Q 120 lv st σ) ∧ (¬ x = 0 → Y124 d Q 116 lv st σ) := yX_at (.ifCond .eq 7, 3, 120, 0, 0, 0, []) rfl
theorem g124_116  : Y124 d Q 116 lv st σ ↔ zldI lv 6 (fun x => Y124 d Q 118 lv (.int x :: st) σ) := yX_at (.iload 6, 2, 0, 0, 0, 0, []) rfl
theorem g124_118 {x : Int32} : Y124 d Q 118 lv (.int x :: st) σ ↔ Y124 d Q 120 (zs1 5 (.int x) lv) st σ := yX_at (.istore 5, 2, 0, 0, 0, 0, []) rfl
theorem g124_120  : Y124 d Q 120 lv st σ ↔ zldI lv 6 (fun x => Y124 d Q 123 (zs1 6 (.int (x + 1)) lv) st σ) := yX_at (.iinc 6 1, 3, 0, 0, 0, 0, []) rfl
theorem g124_123  : Y124 d Q 123 lv st σ ↔ Y124 d Q 73 lv st σ := yX_at (.goto (-50), 3, 73, 0, 0, 0, []) rfl
theorem g124_126  : Y124 d Q 126 lv st σ ↔ zldI lv 5 (fun x => Y124 d Q 128 lv (.int x :: st) σ) := yX_at (.iload 5, 2, 0, 0, 0, 0, []) rfl
theorem g124_128 {x : Int32} : Y124 d Q 128 lv [.int x] σ ↔ Q (some (.int x)) σ := yX_at (.ireturn, 1, 0, 0, 0, 0, []) rfl
end G124
def Y125 (d : Nat) (Q : Option Value → zSt → Prop) (pc : Nat) (lv : zLv) (st : List Value) (σ : zSt) : Prop := yX (yE d) ySn zt125 Q pc lv st σ
theorem C125 {d : Nat} {as : List Value} {σ : zSt} {P : Option Value → zSt → Prop} (hl : (lg_sl as).length ≤ 4) (h : Y125 d P 0 (lv_args 0 as) [] σ) : yC (d + 1) 125 as σ P := yC_of (by decide) hl h
section G125
variable {d : Nat} {Q : Option Value → zSt → Prop} {lv : zLv} {st : List Value} {σ : zSt}
theorem g125_0  : Y125 d Q 0 lv st σ ↔ zldR lv 0 (fun x => Y125 d Q 1 lv (.ref x :: st) σ) := yX_at (.aload_n 0, 1, 0, 0, 0, 0, []) rfl
theorem g125_1  : Y125 d Q 1 lv st σ ↔ zldI lv 1 (fun x => Y125 d Q 2 lv (.int x :: st) σ) := yX_at (.iload_n 1, 1, 0, 0, 0, 0, []) rfl
theorem g125_2 {v0 : Value} {c : Nat} : Y125 d Q 2 lv (v0 :: .ref c :: st) σ ↔ (zrcv 7 c ∧ zrm st) ∧ ∃ rv σ', yE d 95 [.ref c, v0] σ rv σ' ∧ Y125 d Q 5 lv (rv.toList ++ st) σ' := yX_at (.invokevirtual 136, 3, 95, 1, 222, 0, []) rfl
theorem g125_5 {x : Int32} : Y125 d Q 5 lv (.int x :: st) σ ↔ (x = 0 → Y125 d Q 18 lv st σ) ∧ (¬ x = 0 → Y125 d Q 8 lv st σ) := yX_at (.ifCond .eq 13, 3, 18, 0, 0, 0, []) rfl
theorem g125_8  : Y125 d Q 8 lv st σ ↔ zldI lv 2 (fun x => Y125 d Q 9 lv (.int x :: st) σ) := yX_at (.iload_n 2, 1, 0, 0, 0, 0, []) rfl
theorem g125_9 {x : Int32} : Y125 d Q 9 lv (.int x :: st) σ ↔ Y125 d Q 10 lv (.long x.toInt64 :: st) σ := yX_at (.i2l, 1, 0, 0, 0, 0, []) rfl
theorem g125_10  : Y125 d Q 10 lv st σ ↔ Y125 d Q 11 lv (.long 0 :: st) σ := yX_at (.lconst 0, 1, 0, 0, 0, 0, []) rfl
theorem g125_11  : Y125 d Q 11 lv st σ ↔ Y125 d Q 12 lv (.long 1 :: st) σ := yX_at (.lconst 1, 1, 0, 0, 0, 0, []) rfl
theorem g125_12 {v0 v1 v2 : Value} : Y125 d Q 12 lv (v2 :: v1 :: v0 :: st) σ ↔ zrm st ∧ ∃ rv σ', yE d 91 [v0, v1, v2] σ rv σ' ∧ Y125 d Q 15 lv (rv.toList ++ st) σ' := yX_at (.invokestatic 67, 3, 91, 3, 186, 0, []) rfl
theorem g125_15 {x : Int32} : Y125 d Q 15 lv (.int x :: st) σ ↔ (¬ x = 0 → Y125 d Q 20 lv st σ) ∧ (x = 0 → Y125 d Q 18 lv st σ) := yX_at (.ifCond .ne 5, 3, 20, 0, 0, 0, []) rfl
theorem g125_18  : Y125 d Q 18 lv st σ ↔ Y125 d Q 19 lv (.int (-1) :: st) σ := by
  rw [show (-1 : Int32) = Int32.ofInt (-1) from by decide]
  exact yX_at (.iconst (-1), 1, 0, 0, 0, 0, []) rfl
theorem g125_19 {x : Int32} : Y125 d Q 19 lv [.int x] σ ↔ Q (some (.int x)) σ := yX_at (.ireturn, 1, 0, 0, 0, 0, []) rfl
theorem g125_20  : Y125 d Q 20 lv st σ ↔ zldR lv 0 (fun x => Y125 d Q 21 lv (.ref x :: st) σ) := yX_at (.aload_n 0, 1, 0, 0, 0, 0, []) rfl
theorem g125_21  : Y125 d Q 21 lv st σ ↔ zldI lv 1 (fun x => Y125 d Q 22 lv (.int x :: st) σ) := yX_at (.iload_n 1, 1, 0, 0, 0, 0, []) rfl
theorem g125_22  : Y125 d Q 22 lv st σ ↔ zldR lv 0 (fun x => Y125 d Q 23 lv (.ref x :: st) σ) := yX_at (.aload_n 0, 1, 0, 0, 0, 0, []) rfl
theorem g125_23 {c : Nat} : Y125 d Q 23 lv (.ref c :: st) σ ↔ zK c = 7 ∧ Y125 d Q 26 lv (zfv σ c 3 :: st) σ := yX_at (.getfield 17, 3, 7, 3, 214, 0, []) rfl
theorem g125_26  : Y125 d Q 26 lv st σ ↔ zldI lv 1 (fun x => Y125 d Q 27 lv (.int x :: st) σ) := yX_at (.iload_n 1, 1, 0, 0, 0, 0, []) rfl
theorem g125_27 {j : Int32} {c : Nat} : Y125 d Q 27 lv (.int j :: .ref c :: st) σ ↔ (zK c = 100 ∧ vp_in j (zLn c)) ∧ Y125 d Q 28 lv (.int (σ.1 c j.toNatClampNeg) :: st) σ := yX_at (.iaload, 1, 0, 0, 0, 0, []) rfl
theorem g125_28  : Y125 d Q 28 lv st σ ↔ zldR lv 0 (fun x => Y125 d Q 29 lv (.ref x :: st) σ) := yX_at (.aload_n 0, 1, 0, 0, 0, 0, []) rfl
theorem g125_29 {c : Nat} : Y125 d Q 29 lv (.ref c :: st) σ ↔ zK c = 7 ∧ Y125 d Q 32 lv (zfv σ c 4 :: st) σ := yX_at (.getfield 20, 3, 7, 4, 215, 0, []) rfl
theorem g125_32  : Y125 d Q 32 lv st σ ↔ zldI lv 1 (fun x => Y125 d Q 33 lv (.int x :: st) σ) := yX_at (.iload_n 1, 1, 0, 0, 0, 0, []) rfl
theorem g125_33 {j : Int32} {c : Nat} : Y125 d Q 33 lv (.int j :: .ref c :: st) σ ↔ (zK c = 100 ∧ vp_in j (zLn c)) ∧ Y125 d Q 34 lv (.int (σ.1 c j.toNatClampNeg) :: st) σ := yX_at (.iaload, 1, 0, 0, 0, 0, []) rfl
theorem g125_34 {v0 v1 v2 : Value} {c : Nat} : Y125 d Q 34 lv (v2 :: v1 :: v0 :: .ref c :: st) σ ↔ (zrcv 7 c ∧ zrm st) ∧ ∃ rv σ', yE d 124 [.ref c, v0, v1, v2] σ rv σ' ∧ Y125 d Q 37 lv (rv.toList ++ st) σ' := yX_at (.invokevirtual 190, 3, 124, 3, 239, 0, []) rfl
theorem g125_37 {x : Int32} : Y125 d Q 37 lv (.int x :: st) σ ↔ Y125 d Q 38 (zs1 3 (.int x) lv) st σ := yX_at (.istore_n 3, 1, 0, 0, 0, 0, []) rfl
theorem g125_38  : Y125 d Q 38 lv st σ ↔ zldI lv 2 (fun x => Y125 d Q 39 lv (.int x :: st) σ) := yX_at (.iload_n 2, 1, 0, 0, 0, 0, []) rfl
theorem g125_39 {x : Int32} : Y125 d Q 39 lv (.int x :: st) σ ↔ (¬ x = 0 → Y125 d Q 50 lv st σ) ∧ (x = 0 → Y125 d Q 42 lv st σ) := yX_at (.ifCond .ne 11, 3, 50, 0, 0, 0, []) rfl
theorem g125_42  : Y125 d Q 42 lv st σ ↔ zldR lv 0 (fun x => Y125 d Q 43 lv (.ref x :: st) σ) := yX_at (.aload_n 0, 1, 0, 0, 0, 0, []) rfl
theorem g125_43  : Y125 d Q 43 lv st σ ↔ zldI lv 3 (fun x => Y125 d Q 44 lv (.int x :: st) σ) := yX_at (.iload_n 3, 1, 0, 0, 0, 0, []) rfl
theorem g125_44 {v0 : Value} {c : Nat} : Y125 d Q 44 lv (v0 :: .ref c :: st) σ ↔ (zrcv 7 c ∧ zrm st) ∧ ∃ rv σ', yE d 123 [.ref c, v0] σ rv σ' ∧ Y125 d Q 47 lv (rv.toList ++ st) σ' := yX_at (.invokevirtual 183, 3, 123, 1, 237, 0, []) rfl
theorem g125_47  : Y125 d Q 47 lv st σ ↔ Y125 d Q 51 lv st σ := yX_at (.goto 4, 3, 51, 0, 0, 0, []) rfl
theorem g125_50  : Y125 d Q 50 lv st σ ↔ zldI lv 3 (fun x => Y125 d Q 51 lv (.int x :: st) σ) := yX_at (.iload_n 3, 1, 0, 0, 0, 0, []) rfl
theorem g125_51 {x : Int32} : Y125 d Q 51 lv [.int x] σ ↔ Q (some (.int x)) σ := yX_at (.ireturn, 1, 0, 0, 0, 0, []) rfl
end G125
def Y126 (d : Nat) (Q : Option Value → zSt → Prop) (pc : Nat) (lv : zLv) (st : List Value) (σ : zSt) : Prop := yX (yE d) ySn zt126 Q pc lv st σ
theorem C126 {d : Nat} {as : List Value} {σ : zSt} {P : Option Value → zSt → Prop} (hl : (lg_sl as).length ≤ 3) (h : Y126 d P 0 (lv_args 0 as) [] σ) : yC (d + 1) 126 as σ P := yC_of (by decide) hl h
section G126
variable {d : Nat} {Q : Option Value → zSt → Prop} {lv : zLv} {st : List Value} {σ : zSt}
theorem g126_0  : Y126 d Q 0 lv st σ ↔ zldR lv 0 (fun x => Y126 d Q 1 lv (.ref x :: st) σ) := yX_at (.aload_n 0, 1, 0, 0, 0, 0, []) rfl
theorem g126_1  : Y126 d Q 1 lv st σ ↔ zldI lv 1 (fun x => Y126 d Q 2 lv (.int x :: st) σ) := yX_at (.iload_n 1, 1, 0, 0, 0, 0, []) rfl
theorem g126_2 {v0 : Value} {c : Nat} : Y126 d Q 2 lv (v0 :: .ref c :: st) σ ↔ (zrcv 7 c ∧ zrm st) ∧ ∃ rv σ', yE d 95 [.ref c, v0] σ rv σ' ∧ Y126 d Q 5 lv (rv.toList ++ st) σ' := yX_at (.invokevirtual 136, 3, 95, 1, 222, 0, []) rfl
theorem g126_5 {x : Int32} : Y126 d Q 5 lv (.int x :: st) σ ↔ (x = 0 → Y126 d Q 18 lv st σ) ∧ (¬ x = 0 → Y126 d Q 8 lv st σ) := yX_at (.ifCond .eq 13, 3, 18, 0, 0, 0, []) rfl
theorem g126_8  : Y126 d Q 8 lv st σ ↔ zldI lv 2 (fun x => Y126 d Q 9 lv (.int x :: st) σ) := yX_at (.iload_n 2, 1, 0, 0, 0, 0, []) rfl
theorem g126_9 {x : Int32} : Y126 d Q 9 lv (.int x :: st) σ ↔ Y126 d Q 10 lv (.long x.toInt64 :: st) σ := yX_at (.i2l, 1, 0, 0, 0, 0, []) rfl
theorem g126_10  : Y126 d Q 10 lv st σ ↔ Y126 d Q 11 lv (.long 0 :: st) σ := yX_at (.lconst 0, 1, 0, 0, 0, 0, []) rfl
theorem g126_11  : Y126 d Q 11 lv st σ ↔ Y126 d Q 12 lv (.long 1 :: st) σ := yX_at (.lconst 1, 1, 0, 0, 0, 0, []) rfl
theorem g126_12 {v0 v1 v2 : Value} : Y126 d Q 12 lv (v2 :: v1 :: v0 :: st) σ ↔ zrm st ∧ ∃ rv σ', yE d 91 [v0, v1, v2] σ rv σ' ∧ Y126 d Q 15 lv (rv.toList ++ st) σ' := yX_at (.invokestatic 67, 3, 91, 3, 186, 0, []) rfl
theorem g126_15 {x : Int32} : Y126 d Q 15 lv (.int x :: st) σ ↔ (¬ x = 0 → Y126 d Q 20 lv st σ) ∧ (x = 0 → Y126 d Q 18 lv st σ) := yX_at (.ifCond .ne 5, 3, 20, 0, 0, 0, []) rfl
theorem g126_18  : Y126 d Q 18 lv st σ ↔ Y126 d Q 19 lv (.int (-1) :: st) σ := by
  rw [show (-1 : Int32) = Int32.ofInt (-1) from by decide]
  exact yX_at (.iconst (-1), 1, 0, 0, 0, 0, []) rfl
theorem g126_19 {x : Int32} : Y126 d Q 19 lv [.int x] σ ↔ Q (some (.int x)) σ := yX_at (.ireturn, 1, 0, 0, 0, 0, []) rfl
theorem g126_20  : Y126 d Q 20 lv st σ ↔ zldR lv 0 (fun x => Y126 d Q 21 lv (.ref x :: st) σ) := yX_at (.aload_n 0, 1, 0, 0, 0, 0, []) rfl
theorem g126_21  : Y126 d Q 21 lv st σ ↔ zldI lv 2 (fun x => Y126 d Q 22 lv (.int x :: st) σ) := yX_at (.iload_n 2, 1, 0, 0, 0, 0, []) rfl
theorem g126_22 {x : Int32} : Y126 d Q 22 lv (.int x :: st) σ ↔ (¬ x = 0 → Y126 d Q 41 lv st σ) ∧ (x = 0 → Y126 d Q 25 lv st σ) := yX_at (.ifCond .ne 19, 3, 41, 0, 0, 0, []) rfl
theorem g126_25  : Y126 d Q 25 lv st σ ↔ zldR lv 0 (fun x => Y126 d Q 26 lv (.ref x :: st) σ) := yX_at (.aload_n 0, 1, 0, 0, 0, 0, []) rfl
theorem g126_26  : Y126 d Q 26 lv st σ ↔ zldI lv 1 (fun x => Y126 d Q 27 lv (.int x :: st) σ) := yX_at (.iload_n 1, 1, 0, 0, 0, 0, []) rfl
theorem g126_27  : Y126 d Q 27 lv st σ ↔ Y126 d Q 29 lv (.int 8 :: st) σ := yX_at (.bipush 8, 2, 0, 0, 0, 0, []) rfl
theorem g126_29  : Y126 d Q 29 lv st σ ↔ zldR lv 0 (fun x => Y126 d Q 30 lv (.ref x :: st) σ) := yX_at (.aload_n 0, 1, 0, 0, 0, 0, []) rfl
theorem g126_30 {c : Nat} : Y126 d Q 30 lv (.ref c :: st) σ ↔ zK c = 7 ∧ Y126 d Q 33 lv (zfv σ c 4 :: st) σ := yX_at (.getfield 20, 3, 7, 4, 215, 0, []) rfl
theorem g126_33  : Y126 d Q 33 lv st σ ↔ zldI lv 1 (fun x => Y126 d Q 34 lv (.int x :: st) σ) := yX_at (.iload_n 1, 1, 0, 0, 0, 0, []) rfl
theorem g126_34 {j : Int32} {c : Nat} : Y126 d Q 34 lv (.int j :: .ref c :: st) σ ↔ (zK c = 100 ∧ vp_in j (zLn c)) ∧ Y126 d Q 35 lv (.int (σ.1 c j.toNatClampNeg) :: st) σ := yX_at (.iaload, 1, 0, 0, 0, 0, []) rfl
theorem g126_35 {v0 v1 v2 : Value} {c : Nat} : Y126 d Q 35 lv (v2 :: v1 :: v0 :: .ref c :: st) σ ↔ (zrcv 7 c ∧ zrm st) ∧ ∃ rv σ', yE d 124 [.ref c, v0, v1, v2] σ rv σ' ∧ Y126 d Q 38 lv (rv.toList ++ st) σ' := yX_at (.invokevirtual 190, 3, 124, 3, 239, 0, []) rfl
theorem g126_38  : Y126 d Q 38 lv st σ ↔ Y126 d Q 54 lv st σ := yX_at (.goto 16, 3, 54, 0, 0, 0, []) rfl
theorem g126_41  : Y126 d Q 41 lv st σ ↔ zldR lv 0 (fun x => Y126 d Q 42 lv (.ref x :: st) σ) := yX_at (.aload_n 0, 1, 0, 0, 0, 0, []) rfl
theorem g126_42  : Y126 d Q 42 lv st σ ↔ zldI lv 1 (fun x => Y126 d Q 43 lv (.int x :: st) σ) := yX_at (.iload_n 1, 1, 0, 0, 0, 0, []) rfl
theorem g126_43  : Y126 d Q 43 lv st σ ↔ zldR lv 0 (fun x => Y126 d Q 44 lv (.ref x :: st) σ) := yX_at (.aload_n 0, 1, 0, 0, 0, 0, []) rfl
theorem g126_44 {c : Nat} : Y126 d Q 44 lv (.ref c :: st) σ ↔ zK c = 7 ∧ Y126 d Q 47 lv (zfv σ c 3 :: st) σ := yX_at (.getfield 17, 3, 7, 3, 214, 0, []) rfl
theorem g126_47  : Y126 d Q 47 lv st σ ↔ zldI lv 1 (fun x => Y126 d Q 48 lv (.int x :: st) σ) := yX_at (.iload_n 1, 1, 0, 0, 0, 0, []) rfl
theorem g126_48 {j : Int32} {c : Nat} : Y126 d Q 48 lv (.int j :: .ref c :: st) σ ↔ (zK c = 100 ∧ vp_in j (zLn c)) ∧ Y126 d Q 49 lv (.int (σ.1 c j.toNatClampNeg) :: st) σ := yX_at (.iaload, 1, 0, 0, 0, 0, []) rfl
theorem g126_49  : Y126 d Q 49 lv st σ ↔ Y126 d Q 51 lv (.int 99 :: st) σ := yX_at (.bipush 99, 2, 0, 0, 0, 0, []) rfl
theorem g126_51 {v0 v1 v2 : Value} {c : Nat} : Y126 d Q 51 lv (v2 :: v1 :: v0 :: .ref c :: st) σ ↔ (zrcv 7 c ∧ zrm st) ∧ ∃ rv σ', yE d 124 [.ref c, v0, v1, v2] σ rv σ' ∧ Y126 d Q 54 lv (rv.toList ++ st) σ' := yX_at (.invokevirtual 190, 3, 124, 3, 239, 0, []) rfl
theorem g126_54 {v0 : Value} {c : Nat} : Y126 d Q 54 lv (v0 :: .ref c :: st) σ ↔ (zrcv 7 c ∧ zrm st) ∧ ∃ rv σ', yE d 123 [.ref c, v0] σ rv σ' ∧ Y126 d Q 57 lv (rv.toList ++ st) σ' := yX_at (.invokevirtual 183, 3, 123, 1, 237, 0, []) rfl
theorem g126_57 {x : Int32} : Y126 d Q 57 lv [.int x] σ ↔ Q (some (.int x)) σ := yX_at (.ireturn, 1, 0, 0, 0, 0, []) rfl
end G126
def Y127 (d : Nat) (Q : Option Value → zSt → Prop) (pc : Nat) (lv : zLv) (st : List Value) (σ : zSt) : Prop := yX (yE d) ySn zt127 Q pc lv st σ
theorem C127 {d : Nat} {as : List Value} {σ : zSt} {P : Option Value → zSt → Prop} (hl : (lg_sl as).length ≤ 1) (h : Y127 d P 0 (lv_args 0 as) [] σ) : yC (d + 1) 127 as σ P := yC_of (by decide) hl h
section G127
variable {d : Nat} {Q : Option Value → zSt → Prop} {lv : zLv} {st : List Value} {σ : zSt}
theorem g127_0  : Y127 d Q 0 lv st σ ↔ zldR lv 0 (fun x => Y127 d Q 1 lv (.ref x :: st) σ) := yX_at (.aload_n 0, 1, 0, 0, 0, 0, []) rfl
theorem g127_1 {c : Nat} : Y127 d Q 1 lv (.ref c :: st) σ ↔ zK c = 7 ∧ Y127 d Q 4 lv (zfv σ c 10 :: st) σ := yX_at (.getfield 32, 3, 7, 10, 240, 0, []) rfl
theorem g127_4  : Y127 d Q 4 lv st σ ↔ Y127 d Q 5 lv (.int 0 :: st) σ := yX_at (.iconst 0, 1, 0, 0, 0, 0, []) rfl
theorem g127_5 {j : Int32} {c : Nat} : Y127 d Q 5 lv (.int j :: .ref c :: st) σ ↔ (zK c = 100 ∧ vp_in j (zLn c)) ∧ Y127 d Q 6 lv (.int (σ.1 c j.toNatClampNeg) :: st) σ := yX_at (.iaload, 1, 0, 0, 0, 0, []) rfl
theorem g127_6  : Y127 d Q 6 lv st σ ↔ zldR lv 0 (fun x => Y127 d Q 7 lv (.ref x :: st) σ) := yX_at (.aload_n 0, 1, 0, 0, 0, 0, []) rfl
theorem g127_7 {c : Nat} : Y127 d Q 7 lv (.ref c :: st) σ ↔ zK c = 7 ∧ Y127 d Q 10 lv (zfv σ c 10 :: st) σ := yX_at (.getfield 32, 3, 7, 10, 240, 0, []) rfl
theorem g127_10  : Y127 d Q 10 lv st σ ↔ Y127 d Q 11 lv (.int 1 :: st) σ := yX_at (.iconst 1, 1, 0, 0, 0, 0, []) rfl
theorem g127_11 {j : Int32} {c : Nat} : Y127 d Q 11 lv (.int j :: .ref c :: st) σ ↔ (zK c = 100 ∧ vp_in j (zLn c)) ∧ Y127 d Q 12 lv (.int (σ.1 c j.toNatClampNeg) :: st) σ := yX_at (.iaload, 1, 0, 0, 0, 0, []) rfl
theorem g127_12 {x y : Int32} : Y127 d Q 12 lv (.int y :: .int x :: st) σ ↔ Y127 d Q 13 lv (.int (x + y) :: st) σ := yX_at (.iadd, 1, 0, 0, 0, 0, []) rfl
theorem g127_13  : Y127 d Q 13 lv st σ ↔ zldR lv 0 (fun x => Y127 d Q 14 lv (.ref x :: st) σ) := yX_at (.aload_n 0, 1, 0, 0, 0, 0, []) rfl
theorem g127_14 {c : Nat} : Y127 d Q 14 lv (.ref c :: st) σ ↔ zK c = 7 ∧ Y127 d Q 17 lv (zfv σ c 10 :: st) σ := yX_at (.getfield 32, 3, 7, 10, 240, 0, []) rfl
theorem g127_17  : Y127 d Q 17 lv st σ ↔ Y127 d Q 18 lv (.int 2 :: st) σ := yX_at (.iconst 2, 1, 0, 0, 0, 0, []) rfl
theorem g127_18 {j : Int32} {c : Nat} : Y127 d Q 18 lv (.int j :: .ref c :: st) σ ↔ (zK c = 100 ∧ vp_in j (zLn c)) ∧ Y127 d Q 19 lv (.int (σ.1 c j.toNatClampNeg) :: st) σ := yX_at (.iaload, 1, 0, 0, 0, 0, []) rfl
theorem g127_19 {x y : Int32} : Y127 d Q 19 lv (.int y :: .int x :: st) σ ↔ Y127 d Q 20 lv (.int (x + y) :: st) σ := yX_at (.iadd, 1, 0, 0, 0, 0, []) rfl
theorem g127_20 {x : Int32} : Y127 d Q 20 lv [.int x] σ ↔ Q (some (.int x)) σ := yX_at (.ireturn, 1, 0, 0, 0, 0, []) rfl
end G127
def Y128 (d : Nat) (Q : Option Value → zSt → Prop) (pc : Nat) (lv : zLv) (st : List Value) (σ : zSt) : Prop := yX (yE d) ySn zt128 Q pc lv st σ
theorem C128 {d : Nat} {as : List Value} {σ : zSt} {P : Option Value → zSt → Prop} (hl : (lg_sl as).length ≤ 6) (h : Y128 d P 0 (lv_args 0 as) [] σ) : yC (d + 1) 128 as σ P := yC_of (by decide) hl h
section G128
variable {d : Nat} {Q : Option Value → zSt → Prop} {lv : zLv} {st : List Value} {σ : zSt}
theorem g128_0  : Y128 d Q 0 lv st σ ↔ zldI lv 1 (fun x => Y128 d Q 1 lv (.int x :: st) σ) := yX_at (.iload_n 1, 1, 0, 0, 0, 0, []) rfl
theorem g128_1 {x : Int32} : Y128 d Q 1 lv (.int x :: st) σ ↔ Y128 d Q 2 lv (.long x.toInt64 :: st) σ := yX_at (.i2l, 1, 0, 0, 0, 0, []) rfl
theorem g128_2  : Y128 d Q 2 lv st σ ↔ Y128 d Q 3 lv (.long 0 :: st) σ := yX_at (.lconst 0, 1, 0, 0, 0, 0, []) rfl
theorem g128_3  : Y128 d Q 3 lv st σ ↔ Y128 d Q 6 lv (.long 2 :: st) σ := yX_at (.ldc2_w 193, 3, 0, 0, 241, 2, []) rfl
theorem g128_6 {v0 v1 v2 : Value} : Y128 d Q 6 lv (v2 :: v1 :: v0 :: st) σ ↔ zrm st ∧ ∃ rv σ', yE d 91 [v0, v1, v2] σ rv σ' ∧ Y128 d Q 9 lv (rv.toList ++ st) σ' := yX_at (.invokestatic 67, 3, 91, 3, 186, 0, []) rfl
theorem g128_9 {x : Int32} : Y128 d Q 9 lv (.int x :: st) σ ↔ (x = 0 → Y128 d Q 53 lv st σ) ∧ (¬ x = 0 → Y128 d Q 12 lv st σ) := yX_at (.ifCond .eq 44, 3, 53, 0, 0, 0, []) rfl
theorem g128_12  : Y128 d Q 12 lv st σ ↔ zldI lv 2 (fun x => Y128 d Q 13 lv (.int x :: st) σ) := yX_at (.iload_n 2, 1, 0, 0, 0, 0, []) rfl
theorem g128_13 {x : Int32} : Y128 d Q 13 lv (.int x :: st) σ ↔ Y128 d Q 14 lv (.long x.toInt64 :: st) σ := yX_at (.i2l, 1, 0, 0, 0, 0, []) rfl
theorem g128_14  : Y128 d Q 14 lv st σ ↔ Y128 d Q 15 lv (.long 0 :: st) σ := yX_at (.lconst 0, 1, 0, 0, 0, 0, []) rfl
theorem g128_15  : Y128 d Q 15 lv st σ ↔ Y128 d Q 18 lv (.long 10 :: st) σ := yX_at (.ldc2_w 195, 3, 0, 0, 242, 10, []) rfl
theorem g128_18 {v0 v1 v2 : Value} : Y128 d Q 18 lv (v2 :: v1 :: v0 :: st) σ ↔ zrm st ∧ ∃ rv σ', yE d 91 [v0, v1, v2] σ rv σ' ∧ Y128 d Q 21 lv (rv.toList ++ st) σ' := yX_at (.invokestatic 67, 3, 91, 3, 186, 0, []) rfl
theorem g128_21 {x : Int32} : Y128 d Q 21 lv (.int x :: st) σ ↔ (x = 0 → Y128 d Q 53 lv st σ) ∧ (¬ x = 0 → Y128 d Q 24 lv st σ) := yX_at (.ifCond .eq 32, 3, 53, 0, 0, 0, []) rfl
theorem g128_24  : Y128 d Q 24 lv st σ ↔ zldI lv 3 (fun x => Y128 d Q 25 lv (.int x :: st) σ) := yX_at (.iload_n 3, 1, 0, 0, 0, 0, []) rfl
theorem g128_25 {x : Int32} : Y128 d Q 25 lv (.int x :: st) σ ↔ Y128 d Q 26 lv (.long x.toInt64 :: st) σ := yX_at (.i2l, 1, 0, 0, 0, 0, []) rfl
theorem g128_26  : Y128 d Q 26 lv st σ ↔ Y128 d Q 27 lv (.long 1 :: st) σ := yX_at (.lconst 1, 1, 0, 0, 0, 0, []) rfl
theorem g128_27  : Y128 d Q 27 lv st σ ↔ Y128 d Q 30 lv (.long 99 :: st) σ := yX_at (.ldc2_w 197, 3, 0, 0, 243, 99, []) rfl
theorem g128_30 {v0 v1 v2 : Value} : Y128 d Q 30 lv (v2 :: v1 :: v0 :: st) σ ↔ zrm st ∧ ∃ rv σ', yE d 91 [v0, v1, v2] σ rv σ' ∧ Y128 d Q 33 lv (rv.toList ++ st) σ' := yX_at (.invokestatic 67, 3, 91, 3, 186, 0, []) rfl
theorem g128_33 {x : Int32} : Y128 d Q 33 lv (.int x :: st) σ ↔ (x = 0 → Y128 d Q 53 lv st σ) ∧ (¬ x = 0 → Y128 d Q 36 lv st σ) := yX_at (.ifCond .eq 20, 3, 53, 0, 0, 0, []) rfl
theorem g128_36  : Y128 d Q 36 lv st σ ↔ zldI lv 4 (fun x => Y128 d Q 38 lv (.int x :: st) σ) := yX_at (.iload 4, 2, 0, 0, 0, 0, []) rfl
theorem g128_38 {x : Int32} : Y128 d Q 38 lv (.int x :: st) σ ↔ Y128 d Q 39 lv (.long x.toInt64 :: st) σ := yX_at (.i2l, 1, 0, 0, 0, 0, []) rfl
theorem g128_39  : Y128 d Q 39 lv st σ ↔ Y128 d Q 40 lv (.long 1 :: st) σ := yX_at (.lconst 1, 1, 0, 0, 0, 0, []) rfl
theorem g128_40  : Y128 d Q 40 lv st σ ↔ Y128 d Q 43 lv (.long 3 :: st) σ := yX_at (.ldc2_w 140, 3, 0, 0, 223, 3, []) rfl
theorem g128_43 {v0 v1 v2 : Value} : Y128 d Q 43 lv (v2 :: v1 :: v0 :: st) σ ↔ zrm st ∧ ∃ rv σ', yE d 91 [v0, v1, v2] σ rv σ' ∧ Y128 d Q 46 lv (rv.toList ++ st) σ' := yX_at (.invokestatic 67, 3, 91, 3, 186, 0, []) rfl
theorem g128_46 {x : Int32} : Y128 d Q 46 lv (.int x :: st) σ ↔ (x = 0 → Y128 d Q 53 lv st σ) ∧ (¬ x = 0 → Y128 d Q 49 lv st σ) := yX_at (.ifCond .eq 7, 3, 53, 0, 0, 0, []) rfl
theorem g128_49  : Y128 d Q 49 lv st σ ↔ Y128 d Q 50 lv (.int 1 :: st) σ := yX_at (.iconst 1, 1, 0, 0, 0, 0, []) rfl
theorem g128_50  : Y128 d Q 50 lv st σ ↔ Y128 d Q 54 lv st σ := yX_at (.goto 4, 3, 54, 0, 0, 0, []) rfl
theorem g128_53  : Y128 d Q 53 lv st σ ↔ Y128 d Q 54 lv (.int 0 :: st) σ := yX_at (.iconst 0, 1, 0, 0, 0, 0, []) rfl
theorem g128_54 {x : Int32} : Y128 d Q 54 lv (.int x :: st) σ ↔ Y128 d Q 56 (zs1 5 (.int x) lv) st σ := yX_at (.istore 5, 2, 0, 0, 0, 0, []) rfl
theorem g128_56  : Y128 d Q 56 lv st σ ↔ zldI lv 5 (fun x => Y128 d Q 58 lv (.int x :: st) σ) := yX_at (.iload 5, 2, 0, 0, 0, 0, []) rfl
theorem g128_58 {x : Int32} : Y128 d Q 58 lv (.int x :: st) σ ↔ (x = 0 → Y128 d Q 79 lv st σ) ∧ (¬ x = 0 → Y128 d Q 61 lv st σ) := yX_at (.ifCond .eq 21, 3, 79, 0, 0, 0, []) rfl
theorem g128_61  : Y128 d Q 61 lv st σ ↔ zldR lv 0 (fun x => Y128 d Q 62 lv (.ref x :: st) σ) := yX_at (.aload_n 0, 1, 0, 0, 0, 0, []) rfl
theorem g128_62 {c : Nat} : Y128 d Q 62 lv (.ref c :: st) σ ↔ (zrcv 7 c ∧ zrm st) ∧ ∃ rv σ', yE d 127 [.ref c] σ rv σ' ∧ Y128 d Q 65 lv (rv.toList ++ st) σ' := yX_at (.invokevirtual 199, 3, 127, 0, 244, 0, []) rfl
theorem g128_65  : Y128 d Q 65 lv st σ ↔ zldR lv 0 (fun x => Y128 d Q 66 lv (.ref x :: st) σ) := yX_at (.aload_n 0, 1, 0, 0, 0, 0, []) rfl
theorem g128_66 {c : Nat} : Y128 d Q 66 lv (.ref c :: st) σ ↔ zK c = 7 ∧ Y128 d Q 69 lv (zfv σ c 10 :: st) σ := yX_at (.getfield 32, 3, 7, 10, 240, 0, []) rfl
theorem g128_69  : Y128 d Q 69 lv st σ ↔ zldI lv 1 (fun x => Y128 d Q 70 lv (.int x :: st) σ) := yX_at (.iload_n 1, 1, 0, 0, 0, 0, []) rfl
theorem g128_70 {j : Int32} {c : Nat} : Y128 d Q 70 lv (.int j :: .ref c :: st) σ ↔ (zK c = 100 ∧ vp_in j (zLn c)) ∧ Y128 d Q 71 lv (.int (σ.1 c j.toNatClampNeg) :: st) σ := yX_at (.iaload, 1, 0, 0, 0, 0, []) rfl
theorem g128_71 {x y : Int32} : Y128 d Q 71 lv (.int y :: .int x :: st) σ ↔ Y128 d Q 72 lv (.int (x - y) :: st) σ := yX_at (.isub, 1, 0, 0, 0, 0, []) rfl
theorem g128_72  : Y128 d Q 72 lv st σ ↔ zldI lv 2 (fun x => Y128 d Q 73 lv (.int x :: st) σ) := yX_at (.iload_n 2, 1, 0, 0, 0, 0, []) rfl
theorem g128_73 {x y : Int32} : Y128 d Q 73 lv (.int y :: .int x :: st) σ ↔ Y128 d Q 74 lv (.int (x + y) :: st) σ := yX_at (.iadd, 1, 0, 0, 0, 0, []) rfl
theorem g128_74  : Y128 d Q 74 lv st σ ↔ Y128 d Q 76 lv (.int 10 :: st) σ := yX_at (.bipush 10, 2, 0, 0, 0, 0, []) rfl
theorem g128_76 {x y : Int32} : Y128 d Q 76 lv (.int y :: .int x :: st) σ ↔ (x ≤ y → Y128 d Q 81 lv st σ) ∧ (¬ x ≤ y → Y128 d Q 79 lv st σ) := yX_at (.if_icmp .le 5, 3, 81, 0, 0, 0, []) rfl
theorem g128_79  : Y128 d Q 79 lv st σ ↔ Y128 d Q 80 lv (.int (-1) :: st) σ := by
  rw [show (-1 : Int32) = Int32.ofInt (-1) from by decide]
  exact yX_at (.iconst (-1), 1, 0, 0, 0, 0, []) rfl
theorem g128_80 {x : Int32} : Y128 d Q 80 lv [.int x] σ ↔ Q (some (.int x)) σ := yX_at (.ireturn, 1, 0, 0, 0, 0, []) rfl
theorem g128_81  : Y128 d Q 81 lv st σ ↔ zldR lv 0 (fun x => Y128 d Q 82 lv (.ref x :: st) σ) := yX_at (.aload_n 0, 1, 0, 0, 0, 0, []) rfl
theorem g128_82 {c : Nat} : Y128 d Q 82 lv (.ref c :: st) σ ↔ zK c = 7 ∧ Y128 d Q 85 lv (zfv σ c 10 :: st) σ := yX_at (.getfield 32, 3, 7, 10, 240, 0, []) rfl
theorem g128_85  : Y128 d Q 85 lv st σ ↔ zldI lv 1 (fun x => Y128 d Q 86 lv (.int x :: st) σ) := yX_at (.iload_n 1, 1, 0, 0, 0, 0, []) rfl
theorem g128_86  : Y128 d Q 86 lv st σ ↔ zldI lv 2 (fun x => Y128 d Q 87 lv (.int x :: st) σ) := yX_at (.iload_n 2, 1, 0, 0, 0, 0, []) rfl
theorem g128_87 {x j : Int32} {c : Nat} : Y128 d Q 87 lv (.int x :: .int j :: .ref c :: st) σ ↔ (zK c = 100 ∧ vp_in j (zLn c)) ∧ Y128 d Q 88 lv st (zwI σ c j.toNatClampNeg x) := yX_at (.iastore, 1, 0, 0, 0, 0, []) rfl
theorem g128_88  : Y128 d Q 88 lv st σ ↔ zldR lv 0 (fun x => Y128 d Q 89 lv (.ref x :: st) σ) := yX_at (.aload_n 0, 1, 0, 0, 0, 0, []) rfl
theorem g128_89 {c : Nat} : Y128 d Q 89 lv (.ref c :: st) σ ↔ zK c = 7 ∧ Y128 d Q 92 lv (zfv σ c 11 :: st) σ := yX_at (.getfield 35, 3, 7, 11, 245, 0, []) rfl
theorem g128_92  : Y128 d Q 92 lv st σ ↔ zldI lv 1 (fun x => Y128 d Q 93 lv (.int x :: st) σ) := yX_at (.iload_n 1, 1, 0, 0, 0, 0, []) rfl
theorem g128_93  : Y128 d Q 93 lv st σ ↔ zldI lv 3 (fun x => Y128 d Q 94 lv (.int x :: st) σ) := yX_at (.iload_n 3, 1, 0, 0, 0, 0, []) rfl
theorem g128_94 {x j : Int32} {c : Nat} : Y128 d Q 94 lv (.int x :: .int j :: .ref c :: st) σ ↔ (zK c = 100 ∧ vp_in j (zLn c)) ∧ Y128 d Q 95 lv st (zwI σ c j.toNatClampNeg x) := yX_at (.iastore, 1, 0, 0, 0, 0, []) rfl
theorem g128_95  : Y128 d Q 95 lv st σ ↔ zldR lv 0 (fun x => Y128 d Q 96 lv (.ref x :: st) σ) := yX_at (.aload_n 0, 1, 0, 0, 0, 0, []) rfl
theorem g128_96 {c : Nat} : Y128 d Q 96 lv (.ref c :: st) σ ↔ zK c = 7 ∧ Y128 d Q 99 lv (zfv σ c 12 :: st) σ := yX_at (.getfield 38, 3, 7, 12, 246, 0, []) rfl
theorem g128_99  : Y128 d Q 99 lv st σ ↔ zldI lv 1 (fun x => Y128 d Q 100 lv (.int x :: st) σ) := yX_at (.iload_n 1, 1, 0, 0, 0, 0, []) rfl
theorem g128_100  : Y128 d Q 100 lv st σ ↔ zldI lv 4 (fun x => Y128 d Q 102 lv (.int x :: st) σ) := yX_at (.iload 4, 2, 0, 0, 0, 0, []) rfl
theorem g128_102 {x j : Int32} {c : Nat} : Y128 d Q 102 lv (.int x :: .int j :: .ref c :: st) σ ↔ (zK c = 100 ∧ vp_in j (zLn c)) ∧ Y128 d Q 103 lv st (zwI σ c j.toNatClampNeg x) := yX_at (.iastore, 1, 0, 0, 0, 0, []) rfl
theorem g128_103  : Y128 d Q 103 lv st σ ↔ zldR lv 0 (fun x => Y128 d Q 104 lv (.ref x :: st) σ) := yX_at (.aload_n 0, 1, 0, 0, 0, 0, []) rfl
theorem g128_104  : Y128 d Q 104 lv st σ ↔ zdup st (fun r => Y128 d Q 105 lv r σ) := yX_at (.dup, 1, 0, 0, 0, 0, []) rfl
theorem g128_105 {c : Nat} : Y128 d Q 105 lv (.ref c :: st) σ ↔ zK c = 7 ∧ Y128 d Q 108 lv (zfv σ c 13 :: st) σ := yX_at (.getfield 202, 3, 7, 13, 247, 0, []) rfl
theorem g128_108  : Y128 d Q 108 lv st σ ↔ Y128 d Q 109 lv (.int 1 :: st) σ := yX_at (.iconst 1, 1, 0, 0, 0, 0, []) rfl
theorem g128_109  : Y128 d Q 109 lv st σ ↔ zldI lv 1 (fun x => Y128 d Q 110 lv (.int x :: st) σ) := yX_at (.iload_n 1, 1, 0, 0, 0, 0, []) rfl
theorem g128_110 {x y : Int32} : Y128 d Q 110 lv (.int y :: .int x :: st) σ ↔ Y128 d Q 111 lv (.int (x <<< (y &&& 31)) :: st) σ := yX_at (.ishl, 1, 0, 0, 0, 0, []) rfl
theorem g128_111 {x y : Int32} : Y128 d Q 111 lv (.int y :: .int x :: st) σ ↔ Y128 d Q 112 lv (.int (x ||| y) :: st) σ := yX_at (.ior, 1, 0, 0, 0, 0, []) rfl
theorem g128_112 {x : Int32} {c : Nat} : Y128 d Q 112 lv (.int x :: .ref c :: st) σ ↔ zK c = 7 ∧ Y128 d Q 115 lv st (zwI σ c 13 x) := yX_at (.putfield 202, 3, 7, 13, 247, 0, []) rfl
theorem g128_115  : Y128 d Q 115 lv st σ ↔ zldR lv 0 (fun x => Y128 d Q 116 lv (.ref x :: st) σ) := yX_at (.aload_n 0, 1, 0, 0, 0, 0, []) rfl
theorem g128_116 {c : Nat} : Y128 d Q 116 lv (.ref c :: st) σ ↔ (zrcv 7 c ∧ zrm st) ∧ ∃ rv σ', yE d 127 [.ref c] σ rv σ' ∧ Y128 d Q 119 lv (rv.toList ++ st) σ' := yX_at (.invokevirtual 199, 3, 127, 0, 244, 0, []) rfl
theorem g128_119 {x : Int32} : Y128 d Q 119 lv [.int x] σ ↔ Q (some (.int x)) σ := yX_at (.ireturn, 1, 0, 0, 0, 0, []) rfl
end G128
def Y129 (d : Nat) (Q : Option Value → zSt → Prop) (pc : Nat) (lv : zLv) (st : List Value) (σ : zSt) : Prop := yX (yE d) ySn zt129 Q pc lv st σ
theorem C129 {d : Nat} {as : List Value} {σ : zSt} {P : Option Value → zSt → Prop} (hl : (lg_sl as).length ≤ 16) (h : Y129 d P 0 (lv_args 0 as) [] σ) : yC (d + 1) 129 as σ P := yC_of (by decide) hl h
section G129
variable {d : Nat} {Q : Option Value → zSt → Prop} {lv : zLv} {st : List Value} {σ : zSt}
theorem g129_0  : Y129 d Q 0 lv st σ ↔ Y129 d Q 1 lv (.int 0 :: st) σ := yX_at (.iconst 0, 1, 0, 0, 0, 0, []) rfl
theorem g129_1 {x : Int32} : Y129 d Q 1 lv (.int x :: st) σ ↔ Y129 d Q 2 (zs1 3 (.int x) lv) st σ := yX_at (.istore_n 3, 1, 0, 0, 0, 0, []) rfl
theorem g129_2  : Y129 d Q 2 lv st σ ↔ zldI lv 3 (fun x => Y129 d Q 3 lv (.int x :: st) σ) := yX_at (.iload_n 3, 1, 0, 0, 0, 0, []) rfl
theorem g129_3  : Y129 d Q 3 lv st σ ↔ Y129 d Q 5 lv (.int 12 :: st) σ := yX_at (.bipush 12, 2, 0, 0, 0, 0, []) rfl
theorem g129_5 {x y : Int32} : Y129 d Q 5 lv (.int y :: .int x :: st) σ ↔ (y ≤ x → Y129 d Q 21 lv st σ) ∧ (¬ y ≤ x → Y129 d Q 8 lv st σ) := yX_at (.if_icmp .ge 16, 3, 21, 0, 0, 0, []) rfl
theorem g129_8  : Y129 d Q 8 lv st σ ↔ zldR lv 0 (fun x => Y129 d Q 9 lv (.ref x :: st) σ) := yX_at (.aload_n 0, 1, 0, 0, 0, 0, []) rfl
theorem g129_9 {c : Nat} : Y129 d Q 9 lv (.ref c :: st) σ ↔ zK c = 7 ∧ Y129 d Q 12 lv (zfv σ c 26 :: st) σ := yX_at (.getfield 56, 3, 7, 26, 248, 0, []) rfl
theorem g129_12  : Y129 d Q 12 lv st σ ↔ zldI lv 3 (fun x => Y129 d Q 13 lv (.int x :: st) σ) := yX_at (.iload_n 3, 1, 0, 0, 0, 0, []) rfl
theorem g129_13  : Y129 d Q 13 lv st σ ↔ Y129 d Q 14 lv (.long 0 :: st) σ := yX_at (.lconst 0, 1, 0, 0, 0, 0, []) rfl
theorem g129_14 {x : Int64} {j : Int32} {c : Nat} : Y129 d Q 14 lv (.long x :: .int j :: .ref c :: st) σ ↔ (zK c = 103 ∧ vp_in j (zLn c)) ∧ Y129 d Q 15 lv st (zwJ σ c j.toNatClampNeg x) := yX_at (.lastore, 1, 0, 0, 0, 0, []) rfl
theorem g129_15  : Y129 d Q 15 lv st σ ↔ zldI lv 3 (fun x => Y129 d Q 18 (zs1 3 (.int (x + 1)) lv) st σ) := yX_at (.iinc 3 1, 3, 0, 0, 0, 0, []) rfl
theorem g129_18  : Y129 d Q 18 lv st σ ↔ Y129 d Q 2 lv st σ := yX_at (.goto (-16), 3, 2, 0, 0, 0, []) rfl
theorem g129_21  : Y129 d Q 21 lv st σ ↔ Y129 d Q 22 lv (.long 1 :: st) σ := yX_at (.lconst 1, 1, 0, 0, 0, 0, []) rfl
theorem g129_22 {x : Int64} : Y129 d Q 22 lv (.long x :: st) σ ↔ Y129 d Q 23 (zs2 3 (.long x) lv) st σ := yX_at (.lstore_n 3, 1, 0, 0, 0, 0, []) rfl
theorem g129_23  : Y129 d Q 23 lv st σ ↔ Y129 d Q 24 lv (.int 1 :: st) σ := yX_at (.iconst 1, 1, 0, 0, 0, 0, []) rfl
theorem g129_24 {x : Int32} : Y129 d Q 24 lv (.int x :: st) σ ↔ Y129 d Q 26 (zs1 5 (.int x) lv) st σ := yX_at (.istore 5, 2, 0, 0, 0, 0, []) rfl
theorem g129_26  : Y129 d Q 26 lv st σ ↔ zldI lv 5 (fun x => Y129 d Q 28 lv (.int x :: st) σ) := yX_at (.iload 5, 2, 0, 0, 0, 0, []) rfl
theorem g129_28  : Y129 d Q 28 lv st σ ↔ zldI lv 1 (fun x => Y129 d Q 29 lv (.int x :: st) σ) := yX_at (.iload_n 1, 1, 0, 0, 0, 0, []) rfl
theorem g129_29 {x y : Int32} : Y129 d Q 29 lv (.int y :: .int x :: st) σ ↔ (y < x → Y129 d Q 238 lv st σ) ∧ (¬ y < x → Y129 d Q 32 lv st σ) := yX_at (.if_icmp .gt 209, 3, 238, 0, 0, 0, []) rfl
theorem g129_32  : Y129 d Q 32 lv st σ ↔ Y129 d Q 33 lv (.int 0 :: st) σ := yX_at (.iconst 0, 1, 0, 0, 0, 0, []) rfl
theorem g129_33 {x : Int32} : Y129 d Q 33 lv (.int x :: st) σ ↔ Y129 d Q 35 (zs1 6 (.int x) lv) st σ := yX_at (.istore 6, 2, 0, 0, 0, 0, []) rfl
theorem g129_35  : Y129 d Q 35 lv st σ ↔ zldI lv 6 (fun x => Y129 d Q 37 lv (.int x :: st) σ) := yX_at (.iload 6, 2, 0, 0, 0, 0, []) rfl
theorem g129_37  : Y129 d Q 37 lv st σ ↔ Y129 d Q 39 lv (.int 12 :: st) σ := yX_at (.bipush 12, 2, 0, 0, 0, 0, []) rfl
theorem g129_39 {x y : Int32} : Y129 d Q 39 lv (.int y :: .int x :: st) σ ↔ (y ≤ x → Y129 d Q 62 lv st σ) ∧ (¬ y ≤ x → Y129 d Q 42 lv st σ) := yX_at (.if_icmp .ge 23, 3, 62, 0, 0, 0, []) rfl
theorem g129_42  : Y129 d Q 42 lv st σ ↔ zldR lv 0 (fun x => Y129 d Q 43 lv (.ref x :: st) σ) := yX_at (.aload_n 0, 1, 0, 0, 0, 0, []) rfl
theorem g129_43 {c : Nat} : Y129 d Q 43 lv (.ref c :: st) σ ↔ zK c = 7 ∧ Y129 d Q 46 lv (zfv σ c 27 :: st) σ := yX_at (.getfield 60, 3, 7, 27, 249, 0, []) rfl
theorem g129_46  : Y129 d Q 46 lv st σ ↔ zldI lv 6 (fun x => Y129 d Q 48 lv (.int x :: st) σ) := yX_at (.iload 6, 2, 0, 0, 0, 0, []) rfl
theorem g129_48  : Y129 d Q 48 lv st σ ↔ zldR lv 0 (fun x => Y129 d Q 49 lv (.ref x :: st) σ) := yX_at (.aload_n 0, 1, 0, 0, 0, 0, []) rfl
theorem g129_49 {c : Nat} : Y129 d Q 49 lv (.ref c :: st) σ ↔ zK c = 7 ∧ Y129 d Q 52 lv (zfv σ c 26 :: st) σ := yX_at (.getfield 56, 3, 7, 26, 248, 0, []) rfl
theorem g129_52  : Y129 d Q 52 lv st σ ↔ zldI lv 6 (fun x => Y129 d Q 54 lv (.int x :: st) σ) := yX_at (.iload 6, 2, 0, 0, 0, 0, []) rfl
theorem g129_54 {j : Int32} {c : Nat} : Y129 d Q 54 lv (.int j :: .ref c :: st) σ ↔ (zK c = 103 ∧ vp_in j (zLn c)) ∧ Y129 d Q 55 lv (.long (σ.2.1 c j.toNatClampNeg) :: st) σ := yX_at (.laload, 1, 0, 0, 0, 0, []) rfl
theorem g129_55 {x : Int64} {j : Int32} {c : Nat} : Y129 d Q 55 lv (.long x :: .int j :: .ref c :: st) σ ↔ (zK c = 103 ∧ vp_in j (zLn c)) ∧ Y129 d Q 56 lv st (zwJ σ c j.toNatClampNeg x) := yX_at (.lastore, 1, 0, 0, 0, 0, []) rfl
theorem g129_56  : Y129 d Q 56 lv st σ ↔ zldI lv 6 (fun x => Y129 d Q 59 (zs1 6 (.int (x + 1)) lv) st σ) := yX_at (.iinc 6 1, 3, 0, 0, 0, 0, []) rfl
theorem g129_59  : Y129 d Q 59 lv st σ ↔ Y129 d Q 35 lv st σ := yX_at (.goto (-24), 3, 35, 0, 0, 0, []) rfl
theorem g129_62  : Y129 d Q 62 lv st σ ↔ Y129 d Q 63 lv (.int 0 :: st) σ := yX_at (.iconst 0, 1, 0, 0, 0, 0, []) rfl
theorem g129_63 {x : Int32} : Y129 d Q 63 lv (.int x :: st) σ ↔ Y129 d Q 65 (zs1 6 (.int x) lv) st σ := yX_at (.istore 6, 2, 0, 0, 0, 0, []) rfl
theorem g129_65  : Y129 d Q 65 lv st σ ↔ zldI lv 6 (fun x => Y129 d Q 67 lv (.int x :: st) σ) := yX_at (.iload 6, 2, 0, 0, 0, 0, []) rfl
theorem g129_67  : Y129 d Q 67 lv st σ ↔ Y129 d Q 69 lv (.int 6 :: st) σ := yX_at (.bipush 6, 2, 0, 0, 0, 0, []) rfl
theorem g129_69 {x y : Int32} : Y129 d Q 69 lv (.int y :: .int x :: st) σ ↔ (y ≤ x → Y129 d Q 226 lv st σ) ∧ (¬ y ≤ x → Y129 d Q 72 lv st σ) := yX_at (.if_icmp .ge 157, 3, 226, 0, 0, 0, []) rfl
theorem g129_72  : Y129 d Q 72 lv st σ ↔ Y129 d Q 73 lv (.int 0 :: st) σ := yX_at (.iconst 0, 1, 0, 0, 0, 0, []) rfl
theorem g129_73 {x : Int32} : Y129 d Q 73 lv (.int x :: st) σ ↔ Y129 d Q 75 (zs1 7 (.int x) lv) st σ := yX_at (.istore 7, 2, 0, 0, 0, 0, []) rfl
theorem g129_75  : Y129 d Q 75 lv st σ ↔ zldI lv 7 (fun x => Y129 d Q 77 lv (.int x :: st) σ) := yX_at (.iload 7, 2, 0, 0, 0, 0, []) rfl
theorem g129_77  : Y129 d Q 77 lv st σ ↔ Y129 d Q 78 lv (.int 2 :: st) σ := yX_at (.iconst 2, 1, 0, 0, 0, 0, []) rfl
theorem g129_78 {x y : Int32} : Y129 d Q 78 lv (.int y :: .int x :: st) σ ↔ (y ≤ x → Y129 d Q 220 lv st σ) ∧ (¬ y ≤ x → Y129 d Q 81 lv st σ) := yX_at (.if_icmp .ge 142, 3, 220, 0, 0, 0, []) rfl
theorem g129_81  : Y129 d Q 81 lv st σ ↔ zldR lv 0 (fun x => Y129 d Q 82 lv (.ref x :: st) σ) := yX_at (.aload_n 0, 1, 0, 0, 0, 0, []) rfl
theorem g129_82 {c : Nat} : Y129 d Q 82 lv (.ref c :: st) σ ↔ zK c = 7 ∧ Y129 d Q 85 lv (zfv σ c 27 :: st) σ := yX_at (.getfield 60, 3, 7, 27, 249, 0, []) rfl
theorem g129_85  : Y129 d Q 85 lv st σ ↔ Y129 d Q 86 lv (.int 2 :: st) σ := yX_at (.iconst 2, 1, 0, 0, 0, 0, []) rfl
theorem g129_86  : Y129 d Q 86 lv st σ ↔ zldI lv 7 (fun x => Y129 d Q 88 lv (.int x :: st) σ) := yX_at (.iload 7, 2, 0, 0, 0, 0, []) rfl
theorem g129_88 {x y : Int32} : Y129 d Q 88 lv (.int y :: .int x :: st) σ ↔ Y129 d Q 89 lv (.int (x * y) :: st) σ := yX_at (.imul, 1, 0, 0, 0, 0, []) rfl
theorem g129_89 {j : Int32} {c : Nat} : Y129 d Q 89 lv (.int j :: .ref c :: st) σ ↔ (zK c = 103 ∧ vp_in j (zLn c)) ∧ Y129 d Q 90 lv (.long (σ.2.1 c j.toNatClampNeg) :: st) σ := yX_at (.laload, 1, 0, 0, 0, 0, []) rfl
theorem g129_90 {x : Int64} : Y129 d Q 90 lv (.long x :: st) σ ↔ Y129 d Q 92 (zs2 8 (.long x) lv) st σ := yX_at (.lstore 8, 2, 0, 0, 0, 0, []) rfl
theorem g129_92  : Y129 d Q 92 lv st σ ↔ Y129 d Q 94 lv (.int 10 :: st) σ := yX_at (.bipush 10, 2, 0, 0, 0, 0, []) rfl
theorem g129_94  : Y129 d Q 94 lv st σ ↔ zldR lv 0 (fun x => Y129 d Q 95 lv (.ref x :: st) σ) := yX_at (.aload_n 0, 1, 0, 0, 0, 0, []) rfl
theorem g129_95 {c : Nat} : Y129 d Q 95 lv (.ref c :: st) σ ↔ (zrcv 7 c ∧ zrm st) ∧ ∃ rv σ', yE d 127 [.ref c] σ rv σ' ∧ Y129 d Q 98 lv (rv.toList ++ st) σ' := yX_at (.invokevirtual 199, 3, 127, 0, 244, 0, []) rfl
theorem g129_98 {x y : Int32} : Y129 d Q 98 lv (.int y :: .int x :: st) σ ↔ Y129 d Q 99 lv (.int (x - y) :: st) σ := yX_at (.isub, 1, 0, 0, 0, 0, []) rfl
theorem g129_99 {x : Int32} : Y129 d Q 99 lv (.int x :: st) σ ↔ Y129 d Q 100 lv (.long x.toInt64 :: st) σ := yX_at (.i2l, 1, 0, 0, 0, 0, []) rfl
theorem g129_100  : Y129 d Q 100 lv st σ ↔ zldJ lv 8 (fun x => Y129 d Q 102 lv (.long x :: st) σ) := yX_at (.lload 8, 2, 0, 0, 0, 0, []) rfl
theorem g129_102 {x y : Int64} : Y129 d Q 102 lv (.long y :: .long x :: st) σ ↔ Y129 d Q 103 lv (.long (x * y) :: st) σ := yX_at (.lmul, 1, 0, 0, 0, 0, []) rfl
theorem g129_103 {x : Int64} : Y129 d Q 103 lv (.long x :: st) σ ↔ Y129 d Q 105 (zs2 10 (.long x) lv) st σ := yX_at (.lstore 10, 2, 0, 0, 0, 0, []) rfl
theorem g129_105  : Y129 d Q 105 lv st σ ↔ Y129 d Q 106 lv (.int 0 :: st) σ := yX_at (.iconst 0, 1, 0, 0, 0, 0, []) rfl
theorem g129_106 {x : Int32} : Y129 d Q 106 lv (.int x :: st) σ ↔ Y129 d Q 108 (zs1 12 (.int x) lv) st σ := yX_at (.istore 12, 2, 0, 0, 0, 0, []) rfl
theorem g129_108  : Y129 d Q 108 lv st σ ↔ zldI lv 12 (fun x => Y129 d Q 110 lv (.int x :: st) σ) := yX_at (.iload 12, 2, 0, 0, 0, 0, []) rfl
theorem g129_110  : Y129 d Q 110 lv st σ ↔ Y129 d Q 111 lv (.int 3 :: st) σ := yX_at (.iconst 3, 1, 0, 0, 0, 0, []) rfl
theorem g129_111 {x y : Int32} : Y129 d Q 111 lv (.int y :: .int x :: st) σ ↔ (y ≤ x → Y129 d Q 200 lv st σ) ∧ (¬ y ≤ x → Y129 d Q 114 lv st σ) := yX_at (.if_icmp .ge 89, 3, 200, 0, 0, 0, []) rfl
theorem g129_114  : Y129 d Q 114 lv st σ ↔ zldI lv 6 (fun x => Y129 d Q 116 lv (.int x :: st) σ) := yX_at (.iload 6, 2, 0, 0, 0, 0, []) rfl
theorem g129_116  : Y129 d Q 116 lv st σ ↔ zldI lv 7 (fun x => Y129 d Q 118 lv (.int x :: st) σ) := yX_at (.iload 7, 2, 0, 0, 0, 0, []) rfl
theorem g129_118 {x y : Int32} : Y129 d Q 118 lv (.int y :: .int x :: st) σ ↔ Y129 d Q 119 lv (.int (x + y) :: st) σ := yX_at (.iadd, 1, 0, 0, 0, 0, []) rfl
theorem g129_119  : Y129 d Q 119 lv st σ ↔ zldI lv 2 (fun x => Y129 d Q 120 lv (.int x :: st) σ) := yX_at (.iload_n 2, 1, 0, 0, 0, 0, []) rfl
theorem g129_120 {x y : Int32} : Y129 d Q 120 lv (.int y :: .int x :: st) σ ↔ (y ≤ x → Y129 d Q 127 lv st σ) ∧ (¬ y ≤ x → Y129 d Q 123 lv st σ) := yX_at (.if_icmp .ge 7, 3, 127, 0, 0, 0, []) rfl
theorem g129_123  : Y129 d Q 123 lv st σ ↔ Y129 d Q 124 lv (.int 1 :: st) σ := yX_at (.iconst 1, 1, 0, 0, 0, 0, []) rfl
theorem g129_124  : Y129 d Q 124 lv st σ ↔ Y129 d Q 128 lv st σ := yX_at (.goto 4, 3, 128, 0, 0, 0, []) rfl
theorem g129_127  : Y129 d Q 127 lv st σ ↔ Y129 d Q 128 lv (.int 0 :: st) σ := yX_at (.iconst 0, 1, 0, 0, 0, 0, []) rfl
theorem g129_128 {x : Int32} : Y129 d Q 128 lv (.int x :: st) σ ↔ Y129 d Q 130 (zs1 13 (.int x) lv) st σ := yX_at (.istore 13, 2, 0, 0, 0, 0, []) rfl
theorem g129_130  : Y129 d Q 130 lv st σ ↔ zldI lv 13 (fun x => Y129 d Q 132 lv (.int x :: st) σ) := yX_at (.iload 13, 2, 0, 0, 0, 0, []) rfl
theorem g129_132 {x : Int32} : Y129 d Q 132 lv (.int x :: st) σ ↔ (x = 0 → Y129 d Q 162 lv st σ) ∧ (¬ x = 0 → Y129 d Q 135 lv st σ) := yX_at (.ifCond .eq 30, 3, 162, 0, 0, 0, []) rfl
theorem g129_135  : Y129 d Q 135 lv st σ ↔ zldR lv 0 (fun x => Y129 d Q 136 lv (.ref x :: st) σ) := yX_at (.aload_n 0, 1, 0, 0, 0, 0, []) rfl
theorem g129_136 {c : Nat} : Y129 d Q 136 lv (.ref c :: st) σ ↔ zK c = 7 ∧ Y129 d Q 139 lv (zfv σ c 11 :: st) σ := yX_at (.getfield 35, 3, 7, 11, 245, 0, []) rfl
theorem g129_139  : Y129 d Q 139 lv st σ ↔ zldI lv 12 (fun x => Y129 d Q 141 lv (.int x :: st) σ) := yX_at (.iload 12, 2, 0, 0, 0, 0, []) rfl
theorem g129_141 {j : Int32} {c : Nat} : Y129 d Q 141 lv (.int j :: .ref c :: st) σ ↔ (zK c = 100 ∧ vp_in j (zLn c)) ∧ Y129 d Q 142 lv (.int (σ.1 c j.toNatClampNeg) :: st) σ := yX_at (.iaload, 1, 0, 0, 0, 0, []) rfl
theorem g129_142 {x : Int32} : Y129 d Q 142 lv (.int x :: st) σ ↔ Y129 d Q 143 lv (.long x.toInt64 :: st) σ := yX_at (.i2l, 1, 0, 0, 0, 0, []) rfl
theorem g129_143  : Y129 d Q 143 lv st σ ↔ zldJ lv 3 (fun x => Y129 d Q 144 lv (.long x :: st) σ) := yX_at (.lload_n 3, 1, 0, 0, 0, 0, []) rfl
theorem g129_144 {x y : Int64} : Y129 d Q 144 lv (.long y :: .long x :: st) σ ↔ Y129 d Q 145 lv (.long (x * y) :: st) σ := yX_at (.lmul, 1, 0, 0, 0, 0, []) rfl
theorem g129_145  : Y129 d Q 145 lv st σ ↔ zldR lv 0 (fun x => Y129 d Q 146 lv (.ref x :: st) σ) := yX_at (.aload_n 0, 1, 0, 0, 0, 0, []) rfl
theorem g129_146 {c : Nat} : Y129 d Q 146 lv (.ref c :: st) σ ↔ zK c = 7 ∧ Y129 d Q 149 lv (zfv σ c 27 :: st) σ := yX_at (.getfield 60, 3, 7, 27, 249, 0, []) rfl
theorem g129_149  : Y129 d Q 149 lv st σ ↔ zldR lv 0 (fun x => Y129 d Q 150 lv (.ref x :: st) σ) := yX_at (.aload_n 0, 1, 0, 0, 0, 0, []) rfl
theorem g129_150  : Y129 d Q 150 lv st σ ↔ zldI lv 7 (fun x => Y129 d Q 152 lv (.int x :: st) σ) := yX_at (.iload 7, 2, 0, 0, 0, 0, []) rfl
theorem g129_152  : Y129 d Q 152 lv st σ ↔ zldI lv 12 (fun x => Y129 d Q 154 lv (.int x :: st) σ) := yX_at (.iload 12, 2, 0, 0, 0, 0, []) rfl
theorem g129_154 {v0 v1 : Value} {c : Nat} : Y129 d Q 154 lv (v1 :: v0 :: .ref c :: st) σ ↔ (zrcv 7 c ∧ zrm st) ∧ ∃ rv σ', yE d 130 [.ref c, v0, v1] σ rv σ' ∧ Y129 d Q 157 lv (rv.toList ++ st) σ' := yX_at (.invokevirtual 205, 3, 130, 2, 250, 0, []) rfl
theorem g129_157 {j : Int32} {c : Nat} : Y129 d Q 157 lv (.int j :: .ref c :: st) σ ↔ (zK c = 103 ∧ vp_in j (zLn c)) ∧ Y129 d Q 158 lv (.long (σ.2.1 c j.toNatClampNeg) :: st) σ := yX_at (.laload, 1, 0, 0, 0, 0, []) rfl
theorem g129_158 {x y : Int64} : Y129 d Q 158 lv (.long y :: .long x :: st) σ ↔ Y129 d Q 159 lv (.long (x + y) :: st) σ := yX_at (.ladd, 1, 0, 0, 0, 0, []) rfl
theorem g129_159  : Y129 d Q 159 lv st σ ↔ Y129 d Q 163 lv st σ := yX_at (.goto 4, 3, 163, 0, 0, 0, []) rfl
theorem g129_162  : Y129 d Q 162 lv st σ ↔ Y129 d Q 163 lv (.long 0 :: st) σ := yX_at (.lconst 0, 1, 0, 0, 0, 0, []) rfl
theorem g129_163 {x : Int64} : Y129 d Q 163 lv (.long x :: st) σ ↔ Y129 d Q 165 (zs2 14 (.long x) lv) st σ := yX_at (.lstore 14, 2, 0, 0, 0, 0, []) rfl
theorem g129_165  : Y129 d Q 165 lv st σ ↔ zldJ lv 10 (fun x => Y129 d Q 167 lv (.long x :: st) σ) := yX_at (.lload 10, 2, 0, 0, 0, 0, []) rfl
theorem g129_167  : Y129 d Q 167 lv st σ ↔ zldR lv 0 (fun x => Y129 d Q 168 lv (.ref x :: st) σ) := yX_at (.aload_n 0, 1, 0, 0, 0, 0, []) rfl
theorem g129_168 {c : Nat} : Y129 d Q 168 lv (.ref c :: st) σ ↔ zK c = 7 ∧ Y129 d Q 171 lv (zfv σ c 10 :: st) σ := yX_at (.getfield 32, 3, 7, 10, 240, 0, []) rfl
theorem g129_171  : Y129 d Q 171 lv st σ ↔ zldI lv 12 (fun x => Y129 d Q 173 lv (.int x :: st) σ) := yX_at (.iload 12, 2, 0, 0, 0, 0, []) rfl
theorem g129_173 {j : Int32} {c : Nat} : Y129 d Q 173 lv (.int j :: .ref c :: st) σ ↔ (zK c = 100 ∧ vp_in j (zLn c)) ∧ Y129 d Q 174 lv (.int (σ.1 c j.toNatClampNeg) :: st) σ := yX_at (.iaload, 1, 0, 0, 0, 0, []) rfl
theorem g129_174 {x : Int32} : Y129 d Q 174 lv (.int x :: st) σ ↔ Y129 d Q 175 lv (.long x.toInt64 :: st) σ := yX_at (.i2l, 1, 0, 0, 0, 0, []) rfl
theorem g129_175  : Y129 d Q 175 lv st σ ↔ zldJ lv 14 (fun x => Y129 d Q 177 lv (.long x :: st) σ) := yX_at (.lload 14, 2, 0, 0, 0, 0, []) rfl
theorem g129_177  : Y129 d Q 177 lv st σ ↔ zldJ lv 8 (fun x => Y129 d Q 179 lv (.long x :: st) σ) := yX_at (.lload 8, 2, 0, 0, 0, 0, []) rfl
theorem g129_179 {x y : Int64} : Y129 d Q 179 lv (.long y :: .long x :: st) σ ↔ Y129 d Q 180 lv (.int (lg_cmp x y) :: st) σ := yX_at (.lcmp, 1, 0, 0, 0, 0, []) rfl
theorem g129_180 {x : Int32} : Y129 d Q 180 lv (.int x :: st) σ ↔ (x ≤ 0 → Y129 d Q 188 lv st σ) ∧ (¬ x ≤ 0 → Y129 d Q 183 lv st σ) := yX_at (.ifCond .le 8, 3, 188, 0, 0, 0, []) rfl
theorem g129_183  : Y129 d Q 183 lv st σ ↔ zldJ lv 14 (fun x => Y129 d Q 185 lv (.long x :: st) σ) := yX_at (.lload 14, 2, 0, 0, 0, 0, []) rfl
theorem g129_185  : Y129 d Q 185 lv st σ ↔ Y129 d Q 190 lv st σ := yX_at (.goto 5, 3, 190, 0, 0, 0, []) rfl
theorem g129_188  : Y129 d Q 188 lv st σ ↔ zldJ lv 8 (fun x => Y129 d Q 190 lv (.long x :: st) σ) := yX_at (.lload 8, 2, 0, 0, 0, 0, []) rfl
theorem g129_190 {x y : Int64} : Y129 d Q 190 lv (.long y :: .long x :: st) σ ↔ Y129 d Q 191 lv (.long (x * y) :: st) σ := yX_at (.lmul, 1, 0, 0, 0, 0, []) rfl
theorem g129_191 {x y : Int64} : Y129 d Q 191 lv (.long y :: .long x :: st) σ ↔ Y129 d Q 192 lv (.long (x + y) :: st) σ := yX_at (.ladd, 1, 0, 0, 0, 0, []) rfl
theorem g129_192 {x : Int64} : Y129 d Q 192 lv (.long x :: st) σ ↔ Y129 d Q 194 (zs2 10 (.long x) lv) st σ := yX_at (.lstore 10, 2, 0, 0, 0, 0, []) rfl
theorem g129_194  : Y129 d Q 194 lv st σ ↔ zldI lv 12 (fun x => Y129 d Q 197 (zs1 12 (.int (x + 1)) lv) st σ) := yX_at (.iinc 12 1, 3, 0, 0, 0, 0, []) rfl
theorem g129_197  : Y129 d Q 197 lv st σ ↔ Y129 d Q 108 lv st σ := yX_at (.goto (-89), 3, 108, 0, 0, 0, []) rfl
set_option maxRecDepth 20000 in
theorem g129_200  : Y129 d Q 200 lv st σ ↔ zldR lv 0 (fun x => Y129 d Q 201 lv (.ref x :: st) σ) := yX_at (.aload_n 0, 1, 0, 0, 0, 0, []) rfl
set_option maxRecDepth 20000 in
theorem g129_201 {c : Nat} : Y129 d Q 201 lv (.ref c :: st) σ ↔ zK c = 7 ∧ Y129 d Q 204 lv (zfv σ c 26 :: st) σ := yX_at (.getfield 56, 3, 7, 26, 248, 0, []) rfl
set_option maxRecDepth 20000 in
theorem g129_204  : Y129 d Q 204 lv st σ ↔ Y129 d Q 205 lv (.int 2 :: st) σ := yX_at (.iconst 2, 1, 0, 0, 0, 0, []) rfl
set_option maxRecDepth 20000 in
theorem g129_205  : Y129 d Q 205 lv st σ ↔ zldI lv 6 (fun x => Y129 d Q 207 lv (.int x :: st) σ) := yX_at (.iload 6, 2, 0, 0, 0, 0, []) rfl
set_option maxRecDepth 20000 in
theorem g129_207 {x y : Int32} : Y129 d Q 207 lv (.int y :: .int x :: st) σ ↔ Y129 d Q 208 lv (.int (x * y) :: st) σ := yX_at (.imul, 1, 0, 0, 0, 0, []) rfl
set_option maxRecDepth 20000 in
theorem g129_208  : Y129 d Q 208 lv st σ ↔ zldI lv 7 (fun x => Y129 d Q 210 lv (.int x :: st) σ) := yX_at (.iload 7, 2, 0, 0, 0, 0, []) rfl
set_option maxRecDepth 20000 in
theorem g129_210 {x y : Int32} : Y129 d Q 210 lv (.int y :: .int x :: st) σ ↔ Y129 d Q 211 lv (.int (x + y) :: st) σ := yX_at (.iadd, 1, 0, 0, 0, 0, []) rfl
set_option maxRecDepth 20000 in
theorem g129_211  : Y129 d Q 211 lv st σ ↔ zldJ lv 10 (fun x => Y129 d Q 213 lv (.long x :: st) σ) := yX_at (.lload 10, 2, 0, 0, 0, 0, []) rfl
set_option maxRecDepth 20000 in
theorem g129_213 {x : Int64} {j : Int32} {c : Nat} : Y129 d Q 213 lv (.long x :: .int j :: .ref c :: st) σ ↔ (zK c = 103 ∧ vp_in j (zLn c)) ∧ Y129 d Q 214 lv st (zwJ σ c j.toNatClampNeg x) := yX_at (.lastore, 1, 0, 0, 0, 0, []) rfl
set_option maxRecDepth 20000 in
theorem g129_214  : Y129 d Q 214 lv st σ ↔ zldI lv 7 (fun x => Y129 d Q 217 (zs1 7 (.int (x + 1)) lv) st σ) := yX_at (.iinc 7 1, 3, 0, 0, 0, 0, []) rfl
set_option maxRecDepth 20000 in
theorem g129_217  : Y129 d Q 217 lv st σ ↔ Y129 d Q 75 lv st σ := yX_at (.goto (-142), 3, 75, 0, 0, 0, []) rfl
set_option maxRecDepth 20000 in
theorem g129_220  : Y129 d Q 220 lv st σ ↔ zldI lv 6 (fun x => Y129 d Q 223 (zs1 6 (.int (x + 1)) lv) st σ) := yX_at (.iinc 6 1, 3, 0, 0, 0, 0, []) rfl
set_option maxRecDepth 20000 in
theorem g129_223  : Y129 d Q 223 lv st σ ↔ Y129 d Q 65 lv st σ := yX_at (.goto (-158), 3, 65, 0, 0, 0, []) rfl
set_option maxRecDepth 20000 in
theorem g129_226  : Y129 d Q 226 lv st σ ↔ zldJ lv 3 (fun x => Y129 d Q 227 lv (.long x :: st) σ) := yX_at (.lload_n 3, 1, 0, 0, 0, 0, []) rfl
set_option maxRecDepth 20000 in
theorem g129_227  : Y129 d Q 227 lv st σ ↔ Y129 d Q 230 lv (.long 10 :: st) σ := yX_at (.ldc2_w 195, 3, 0, 0, 242, 10, []) rfl
set_option maxRecDepth 20000 in
theorem g129_230 {x y : Int64} : Y129 d Q 230 lv (.long y :: .long x :: st) σ ↔ Y129 d Q 231 lv (.long (x * y) :: st) σ := yX_at (.lmul, 1, 0, 0, 0, 0, []) rfl
set_option maxRecDepth 20000 in
theorem g129_231 {x : Int64} : Y129 d Q 231 lv (.long x :: st) σ ↔ Y129 d Q 232 (zs2 3 (.long x) lv) st σ := yX_at (.lstore_n 3, 1, 0, 0, 0, 0, []) rfl
set_option maxRecDepth 20000 in
theorem g129_232  : Y129 d Q 232 lv st σ ↔ zldI lv 5 (fun x => Y129 d Q 235 (zs1 5 (.int (x + 1)) lv) st σ) := yX_at (.iinc 5 1, 3, 0, 0, 0, 0, []) rfl
set_option maxRecDepth 20000 in
theorem g129_235  : Y129 d Q 235 lv st σ ↔ Y129 d Q 26 lv st σ := yX_at (.goto (-209), 3, 26, 0, 0, 0, []) rfl
set_option maxRecDepth 20000 in
theorem g129_238  : Y129 d Q 238 lv [] σ ↔ Q none σ := yX_at (.return_, 1, 0, 0, 0, 0, []) rfl
end G129
def Y130 (d : Nat) (Q : Option Value → zSt → Prop) (pc : Nat) (lv : zLv) (st : List Value) (σ : zSt) : Prop := yX (yE d) ySn zt130 Q pc lv st σ
theorem C130 {d : Nat} {as : List Value} {σ : zSt} {P : Option Value → zSt → Prop} (hl : (lg_sl as).length ≤ 3) (h : Y130 d P 0 (lv_args 0 as) [] σ) : yC (d + 1) 130 as σ P := yC_of (by decide) hl h
section G130
variable {d : Nat} {Q : Option Value → zSt → Prop} {lv : zLv} {st : List Value} {σ : zSt}
theorem g130_0  : Y130 d Q 0 lv st σ ↔ Y130 d Q 1 lv (.int 2 :: st) σ := yX_at (.iconst 2, 1, 0, 0, 0, 0, []) rfl
theorem g130_1  : Y130 d Q 1 lv st σ ↔ zldI lv 1 (fun x => Y130 d Q 2 lv (.int x :: st) σ) := yX_at (.iload_n 1, 1, 0, 0, 0, 0, []) rfl
theorem g130_2  : Y130 d Q 2 lv st σ ↔ zldR lv 0 (fun x => Y130 d Q 3 lv (.ref x :: st) σ) := yX_at (.aload_n 0, 1, 0, 0, 0, 0, []) rfl
theorem g130_3 {c : Nat} : Y130 d Q 3 lv (.ref c :: st) σ ↔ zK c = 7 ∧ Y130 d Q 6 lv (zfv σ c 12 :: st) σ := yX_at (.getfield 38, 3, 7, 12, 246, 0, []) rfl
theorem g130_6  : Y130 d Q 6 lv st σ ↔ zldI lv 2 (fun x => Y130 d Q 7 lv (.int x :: st) σ) := yX_at (.iload_n 2, 1, 0, 0, 0, 0, []) rfl
theorem g130_7 {j : Int32} {c : Nat} : Y130 d Q 7 lv (.int j :: .ref c :: st) σ ↔ (zK c = 100 ∧ vp_in j (zLn c)) ∧ Y130 d Q 8 lv (.int (σ.1 c j.toNatClampNeg) :: st) σ := yX_at (.iaload, 1, 0, 0, 0, 0, []) rfl
theorem g130_8  : Y130 d Q 8 lv st σ ↔ Y130 d Q 9 lv (.int 2 :: st) σ := yX_at (.iconst 2, 1, 0, 0, 0, 0, []) rfl
theorem g130_9 {x y : Int32} : Y130 d Q 9 lv (.int y :: .int x :: st) σ ↔ (¬ x = y → Y130 d Q 16 lv st σ) ∧ (x = y → Y130 d Q 12 lv st σ) := yX_at (.if_icmp .ne 7, 3, 16, 0, 0, 0, []) rfl
theorem g130_12  : Y130 d Q 12 lv st σ ↔ Y130 d Q 13 lv (.int 1 :: st) σ := yX_at (.iconst 1, 1, 0, 0, 0, 0, []) rfl
theorem g130_13  : Y130 d Q 13 lv st σ ↔ Y130 d Q 17 lv st σ := yX_at (.goto 4, 3, 17, 0, 0, 0, []) rfl
theorem g130_16  : Y130 d Q 16 lv st σ ↔ Y130 d Q 17 lv (.int 0 :: st) σ := yX_at (.iconst 0, 1, 0, 0, 0, 0, []) rfl
theorem g130_17 {x y : Int32} : Y130 d Q 17 lv (.int y :: .int x :: st) σ ↔ Y130 d Q 18 lv (.int (x + y) :: st) σ := yX_at (.iadd, 1, 0, 0, 0, 0, []) rfl
theorem g130_18 {x y : Int32} : Y130 d Q 18 lv (.int y :: .int x :: st) σ ↔ Y130 d Q 19 lv (.int (x * y) :: st) σ := yX_at (.imul, 1, 0, 0, 0, 0, []) rfl
theorem g130_19  : Y130 d Q 19 lv st σ ↔ zldR lv 0 (fun x => Y130 d Q 20 lv (.ref x :: st) σ) := yX_at (.aload_n 0, 1, 0, 0, 0, 0, []) rfl
theorem g130_20 {c : Nat} : Y130 d Q 20 lv (.ref c :: st) σ ↔ zK c = 7 ∧ Y130 d Q 23 lv (zfv σ c 12 :: st) σ := yX_at (.getfield 38, 3, 7, 12, 246, 0, []) rfl
theorem g130_23  : Y130 d Q 23 lv st σ ↔ zldI lv 2 (fun x => Y130 d Q 24 lv (.int x :: st) σ) := yX_at (.iload_n 2, 1, 0, 0, 0, 0, []) rfl
theorem g130_24 {j : Int32} {c : Nat} : Y130 d Q 24 lv (.int j :: .ref c :: st) σ ↔ (zK c = 100 ∧ vp_in j (zLn c)) ∧ Y130 d Q 25 lv (.int (σ.1 c j.toNatClampNeg) :: st) σ := yX_at (.iaload, 1, 0, 0, 0, 0, []) rfl
theorem g130_25  : Y130 d Q 25 lv st σ ↔ Y130 d Q 26 lv (.int 3 :: st) σ := yX_at (.iconst 3, 1, 0, 0, 0, 0, []) rfl
theorem g130_26 {x y : Int32} : Y130 d Q 26 lv (.int y :: .int x :: st) σ ↔ (¬ x = y → Y130 d Q 33 lv st σ) ∧ (x = y → Y130 d Q 29 lv st σ) := yX_at (.if_icmp .ne 7, 3, 33, 0, 0, 0, []) rfl
theorem g130_29  : Y130 d Q 29 lv st σ ↔ Y130 d Q 30 lv (.int 1 :: st) σ := yX_at (.iconst 1, 1, 0, 0, 0, 0, []) rfl
theorem g130_30  : Y130 d Q 30 lv st σ ↔ Y130 d Q 34 lv st σ := yX_at (.goto 4, 3, 34, 0, 0, 0, []) rfl
theorem g130_33  : Y130 d Q 33 lv st σ ↔ Y130 d Q 34 lv (.int 0 :: st) σ := yX_at (.iconst 0, 1, 0, 0, 0, 0, []) rfl
theorem g130_34 {x y : Int32} : Y130 d Q 34 lv (.int y :: .int x :: st) σ ↔ Y130 d Q 35 lv (.int (x + y) :: st) σ := yX_at (.iadd, 1, 0, 0, 0, 0, []) rfl
theorem g130_35 {x : Int32} : Y130 d Q 35 lv [.int x] σ ↔ Q (some (.int x)) σ := yX_at (.ireturn, 1, 0, 0, 0, 0, []) rfl
end G130
def Y131 (d : Nat) (Q : Option Value → zSt → Prop) (pc : Nat) (lv : zLv) (st : List Value) (σ : zSt) : Prop := yX (yE d) ySn zt131 Q pc lv st σ
theorem C131 {d : Nat} {as : List Value} {σ : zSt} {P : Option Value → zSt → Prop} (hl : (lg_sl as).length ≤ 12) (h : Y131 d P 0 (lv_args 0 as) [] σ) : yC (d + 1) 131 as σ P := yC_of (by decide) hl h
section G131
variable {d : Nat} {Q : Option Value → zSt → Prop} {lv : zLv} {st : List Value} {σ : zSt}
theorem g131_0  : Y131 d Q 0 lv st σ ↔ zldR lv 0 (fun x => Y131 d Q 1 lv (.ref x :: st) σ) := yX_at (.aload_n 0, 1, 0, 0, 0, 0, []) rfl
theorem g131_1  : Y131 d Q 1 lv st σ ↔ zldI lv 1 (fun x => Y131 d Q 2 lv (.int x :: st) σ) := yX_at (.iload_n 1, 1, 0, 0, 0, 0, []) rfl
theorem g131_2 {v0 : Value} {c : Nat} : Y131 d Q 2 lv (v0 :: .ref c :: st) σ ↔ (zrcv 7 c ∧ zrm st) ∧ ∃ rv σ', yE d 95 [.ref c, v0] σ rv σ' ∧ Y131 d Q 5 lv (rv.toList ++ st) σ' := yX_at (.invokevirtual 136, 3, 95, 1, 222, 0, []) rfl
theorem g131_5 {x : Int32} : Y131 d Q 5 lv (.int x :: st) σ ↔ (x = 0 → Y131 d Q 30 lv st σ) ∧ (¬ x = 0 → Y131 d Q 8 lv st σ) := yX_at (.ifCond .eq 25, 3, 30, 0, 0, 0, []) rfl
theorem g131_8  : Y131 d Q 8 lv st σ ↔ zldI lv 2 (fun x => Y131 d Q 9 lv (.int x :: st) σ) := yX_at (.iload_n 2, 1, 0, 0, 0, 0, []) rfl
theorem g131_9 {x : Int32} : Y131 d Q 9 lv (.int x :: st) σ ↔ Y131 d Q 10 lv (.long x.toInt64 :: st) σ := yX_at (.i2l, 1, 0, 0, 0, 0, []) rfl
theorem g131_10  : Y131 d Q 10 lv st σ ↔ Y131 d Q 11 lv (.long 0 :: st) σ := yX_at (.lconst 0, 1, 0, 0, 0, 0, []) rfl
theorem g131_11  : Y131 d Q 11 lv st σ ↔ Y131 d Q 14 lv (.long 6 :: st) σ := yX_at (.ldc2_w 208, 3, 0, 0, 251, 6, []) rfl
theorem g131_14 {v0 v1 v2 : Value} : Y131 d Q 14 lv (v2 :: v1 :: v0 :: st) σ ↔ zrm st ∧ ∃ rv σ', yE d 91 [v0, v1, v2] σ rv σ' ∧ Y131 d Q 17 lv (rv.toList ++ st) σ' := yX_at (.invokestatic 67, 3, 91, 3, 186, 0, []) rfl
theorem g131_17 {x : Int32} : Y131 d Q 17 lv (.int x :: st) σ ↔ (x = 0 → Y131 d Q 30 lv st σ) ∧ (¬ x = 0 → Y131 d Q 20 lv st σ) := yX_at (.ifCond .eq 13, 3, 30, 0, 0, 0, []) rfl
theorem g131_20  : Y131 d Q 20 lv st σ ↔ zldI lv 3 (fun x => Y131 d Q 21 lv (.int x :: st) σ) := yX_at (.iload_n 3, 1, 0, 0, 0, 0, []) rfl
theorem g131_21 {x : Int32} : Y131 d Q 21 lv (.int x :: st) σ ↔ Y131 d Q 22 lv (.long x.toInt64 :: st) σ := yX_at (.i2l, 1, 0, 0, 0, 0, []) rfl
theorem g131_22  : Y131 d Q 22 lv st σ ↔ Y131 d Q 23 lv (.long 0 :: st) σ := yX_at (.lconst 0, 1, 0, 0, 0, 0, []) rfl
theorem g131_23  : Y131 d Q 23 lv st σ ↔ Y131 d Q 24 lv (.long 1 :: st) σ := yX_at (.lconst 1, 1, 0, 0, 0, 0, []) rfl
theorem g131_24 {v0 v1 v2 : Value} : Y131 d Q 24 lv (v2 :: v1 :: v0 :: st) σ ↔ zrm st ∧ ∃ rv σ', yE d 91 [v0, v1, v2] σ rv σ' ∧ Y131 d Q 27 lv (rv.toList ++ st) σ' := yX_at (.invokestatic 67, 3, 91, 3, 186, 0, []) rfl
theorem g131_27 {x : Int32} : Y131 d Q 27 lv (.int x :: st) σ ↔ (¬ x = 0 → Y131 d Q 34 lv st σ) ∧ (x = 0 → Y131 d Q 30 lv st σ) := yX_at (.ifCond .ne 7, 3, 34, 0, 0, 0, []) rfl
theorem g131_30  : Y131 d Q 30 lv st σ ↔ Y131 d Q 33 lv (.long (-1) :: st) σ := by
  rw [show (-1 : Int64) = Int64.ofInt (-1) from by decide]
  exact yX_at (.ldc2_w 210, 3, 0, 0, 252, (-1), []) rfl
theorem g131_33 {x : Int64} : Y131 d Q 33 lv [.long x] σ ↔ Q (some (.long x)) σ := yX_at (.lreturn, 1, 0, 0, 0, 0, []) rfl
theorem g131_34  : Y131 d Q 34 lv st σ ↔ zldR lv 0 (fun x => Y131 d Q 35 lv (.ref x :: st) σ) := yX_at (.aload_n 0, 1, 0, 0, 0, 0, []) rfl
theorem g131_35  : Y131 d Q 35 lv st σ ↔ zldI lv 2 (fun x => Y131 d Q 36 lv (.int x :: st) σ) := yX_at (.iload_n 2, 1, 0, 0, 0, 0, []) rfl
theorem g131_36  : Y131 d Q 36 lv st σ ↔ zldR lv 0 (fun x => Y131 d Q 37 lv (.ref x :: st) σ) := yX_at (.aload_n 0, 1, 0, 0, 0, 0, []) rfl
theorem g131_37 {c : Nat} : Y131 d Q 37 lv (.ref c :: st) σ ↔ zK c = 7 ∧ Y131 d Q 40 lv (zfv σ c 3 :: st) σ := yX_at (.getfield 17, 3, 7, 3, 214, 0, []) rfl
theorem g131_40  : Y131 d Q 40 lv st σ ↔ zldI lv 1 (fun x => Y131 d Q 41 lv (.int x :: st) σ) := yX_at (.iload_n 1, 1, 0, 0, 0, 0, []) rfl
theorem g131_41 {j : Int32} {c : Nat} : Y131 d Q 41 lv (.int j :: .ref c :: st) σ ↔ (zK c = 100 ∧ vp_in j (zLn c)) ∧ Y131 d Q 42 lv (.int (σ.1 c j.toNatClampNeg) :: st) σ := yX_at (.iaload, 1, 0, 0, 0, 0, []) rfl
theorem g131_42 {v0 v1 : Value} {c : Nat} : Y131 d Q 42 lv (v1 :: v0 :: .ref c :: st) σ ↔ (zrcv 7 c ∧ zrm st) ∧ ∃ rv σ', yE d 129 [.ref c, v0, v1] σ rv σ' ∧ Y131 d Q 45 lv (rv.toList ++ st) σ' := yX_at (.invokevirtual 212, 3, 129, 2, 253, 0, []) rfl
theorem g131_45  : Y131 d Q 45 lv st σ ↔ Y131 d Q 46 lv (.long 1 :: st) σ := yX_at (.lconst 1, 1, 0, 0, 0, 0, []) rfl
theorem g131_46 {x : Int64} : Y131 d Q 46 lv (.long x :: st) σ ↔ Y131 d Q 48 (zs2 4 (.long x) lv) st σ := yX_at (.lstore 4, 2, 0, 0, 0, 0, []) rfl
theorem g131_48  : Y131 d Q 48 lv st σ ↔ Y131 d Q 49 lv (.int 0 :: st) σ := yX_at (.iconst 0, 1, 0, 0, 0, 0, []) rfl
theorem g131_49 {x : Int32} : Y131 d Q 49 lv (.int x :: st) σ ↔ Y131 d Q 51 (zs1 6 (.int x) lv) st σ := yX_at (.istore 6, 2, 0, 0, 0, 0, []) rfl
theorem g131_51  : Y131 d Q 51 lv st σ ↔ zldI lv 6 (fun x => Y131 d Q 53 lv (.int x :: st) σ) := yX_at (.iload 6, 2, 0, 0, 0, 0, []) rfl
theorem g131_53  : Y131 d Q 53 lv st σ ↔ zldI lv 2 (fun x => Y131 d Q 54 lv (.int x :: st) σ) := yX_at (.iload_n 2, 1, 0, 0, 0, 0, []) rfl
theorem g131_54 {x y : Int32} : Y131 d Q 54 lv (.int y :: .int x :: st) σ ↔ (y ≤ x → Y131 d Q 71 lv st σ) ∧ (¬ y ≤ x → Y131 d Q 57 lv st σ) := yX_at (.if_icmp .ge 17, 3, 71, 0, 0, 0, []) rfl
theorem g131_57  : Y131 d Q 57 lv st σ ↔ zldJ lv 4 (fun x => Y131 d Q 59 lv (.long x :: st) σ) := yX_at (.lload 4, 2, 0, 0, 0, 0, []) rfl
theorem g131_59  : Y131 d Q 59 lv st σ ↔ Y131 d Q 62 lv (.long 10 :: st) σ := yX_at (.ldc2_w 195, 3, 0, 0, 242, 10, []) rfl
theorem g131_62 {x y : Int64} : Y131 d Q 62 lv (.long y :: .long x :: st) σ ↔ Y131 d Q 63 lv (.long (x * y) :: st) σ := yX_at (.lmul, 1, 0, 0, 0, 0, []) rfl
theorem g131_63 {x : Int64} : Y131 d Q 63 lv (.long x :: st) σ ↔ Y131 d Q 65 (zs2 4 (.long x) lv) st σ := yX_at (.lstore 4, 2, 0, 0, 0, 0, []) rfl
theorem g131_65  : Y131 d Q 65 lv st σ ↔ zldI lv 6 (fun x => Y131 d Q 68 (zs1 6 (.int (x + 1)) lv) st σ) := yX_at (.iinc 6 1, 3, 0, 0, 0, 0, []) rfl
theorem g131_68  : Y131 d Q 68 lv st σ ↔ Y131 d Q 51 lv st σ := yX_at (.goto (-17), 3, 51, 0, 0, 0, []) rfl
theorem g131_71  : Y131 d Q 71 lv st σ ↔ zldR lv 0 (fun x => Y131 d Q 72 lv (.ref x :: st) σ) := yX_at (.aload_n 0, 1, 0, 0, 0, 0, []) rfl
theorem g131_72 {c : Nat} : Y131 d Q 72 lv (.ref c :: st) σ ↔ zK c = 7 ∧ Y131 d Q 75 lv (zfv σ c 26 :: st) σ := yX_at (.getfield 56, 3, 7, 26, 248, 0, []) rfl
theorem g131_75  : Y131 d Q 75 lv st σ ↔ Y131 d Q 76 lv (.int 0 :: st) σ := yX_at (.iconst 0, 1, 0, 0, 0, 0, []) rfl
theorem g131_76 {j : Int32} {c : Nat} : Y131 d Q 76 lv (.int j :: .ref c :: st) σ ↔ (zK c = 103 ∧ vp_in j (zLn c)) ∧ Y131 d Q 77 lv (.long (σ.2.1 c j.toNatClampNeg) :: st) σ := yX_at (.laload, 1, 0, 0, 0, 0, []) rfl
theorem g131_77 {x : Int64} : Y131 d Q 77 lv (.long x :: st) σ ↔ Y131 d Q 79 (zs2 6 (.long x) lv) st σ := yX_at (.lstore 6, 2, 0, 0, 0, 0, []) rfl
theorem g131_79  : Y131 d Q 79 lv st σ ↔ zldJ lv 4 (fun x => Y131 d Q 81 lv (.long x :: st) σ) := yX_at (.lload 4, 2, 0, 0, 0, 0, []) rfl
theorem g131_81 {x : Int64} : Y131 d Q 81 lv (.long x :: st) σ ↔ Y131 d Q 83 (zs2 8 (.long x) lv) st σ := yX_at (.lstore 8, 2, 0, 0, 0, 0, []) rfl
theorem g131_83  : Y131 d Q 83 lv st σ ↔ zldJ lv 8 (fun x => Y131 d Q 85 lv (.long x :: st) σ) := yX_at (.lload 8, 2, 0, 0, 0, 0, []) rfl
theorem g131_85  : Y131 d Q 85 lv st σ ↔ Y131 d Q 86 lv (.long 0 :: st) σ := yX_at (.lconst 0, 1, 0, 0, 0, 0, []) rfl
theorem g131_86 {x y : Int64} : Y131 d Q 86 lv (.long y :: .long x :: st) σ ↔ Y131 d Q 87 lv (.int (lg_cmp x y) :: st) σ := yX_at (.lcmp, 1, 0, 0, 0, 0, []) rfl
theorem g131_87 {x : Int32} : Y131 d Q 87 lv (.int x :: st) σ ↔ (x = 0 → Y131 d Q 108 lv st σ) ∧ (¬ x = 0 → Y131 d Q 90 lv st σ) := yX_at (.ifCond .eq 21, 3, 108, 0, 0, 0, []) rfl
theorem g131_90  : Y131 d Q 90 lv st σ ↔ zldJ lv 6 (fun x => Y131 d Q 92 lv (.long x :: st) σ) := yX_at (.lload 6, 2, 0, 0, 0, 0, []) rfl
theorem g131_92  : Y131 d Q 92 lv st σ ↔ zldJ lv 8 (fun x => Y131 d Q 94 lv (.long x :: st) σ) := yX_at (.lload 8, 2, 0, 0, 0, 0, []) rfl
theorem g131_94 {x y : Int64} : Y131 d Q 94 lv (.long y :: .long x :: st) σ ↔ (¬ y = 0) ∧ Y131 d Q 95 lv (.long (x - x / y * y) :: st) σ := yX_at (.lrem, 1, 0, 0, 0, 0, []) rfl
theorem g131_95 {x : Int64} : Y131 d Q 95 lv (.long x :: st) σ ↔ Y131 d Q 97 (zs2 10 (.long x) lv) st σ := yX_at (.lstore 10, 2, 0, 0, 0, 0, []) rfl
theorem g131_97  : Y131 d Q 97 lv st σ ↔ zldJ lv 8 (fun x => Y131 d Q 99 lv (.long x :: st) σ) := yX_at (.lload 8, 2, 0, 0, 0, 0, []) rfl
theorem g131_99 {x : Int64} : Y131 d Q 99 lv (.long x :: st) σ ↔ Y131 d Q 101 (zs2 6 (.long x) lv) st σ := yX_at (.lstore 6, 2, 0, 0, 0, 0, []) rfl
theorem g131_101  : Y131 d Q 101 lv st σ ↔ zldJ lv 10 (fun x => Y131 d Q 103 lv (.long x :: st) σ) := yX_at (.lload 10, 2, 0, 0, 0, 0, []) rfl
theorem g131_103 {x : Int64} : Y131 d Q 103 lv (.long x :: st) σ ↔ Y131 d Q 105 (zs2 8 (.long x) lv) st σ := yX_at (.lstore 8, 2, 0, 0, 0, 0, []) rfl
theorem g131_105  : Y131 d Q 105 lv st σ ↔ Y131 d Q 83 lv st σ := yX_at (.goto (-22), 3, 83, 0, 0, 0, []) rfl
theorem g131_108  : Y131 d Q 108 lv st σ ↔ zldI lv 3 (fun x => Y131 d Q 109 lv (.int x :: st) σ) := yX_at (.iload_n 3, 1, 0, 0, 0, 0, []) rfl
theorem g131_109 {x : Int32} : Y131 d Q 109 lv (.int x :: st) σ ↔ (¬ x = 0 → Y131 d Q 124 lv st σ) ∧ (x = 0 → Y131 d Q 112 lv st σ) := yX_at (.ifCond .ne 15, 3, 124, 0, 0, 0, []) rfl
theorem g131_112  : Y131 d Q 112 lv st σ ↔ zldR lv 0 (fun x => Y131 d Q 113 lv (.ref x :: st) σ) := yX_at (.aload_n 0, 1, 0, 0, 0, 0, []) rfl
theorem g131_113 {c : Nat} : Y131 d Q 113 lv (.ref c :: st) σ ↔ zK c = 7 ∧ Y131 d Q 116 lv (zfv σ c 26 :: st) σ := yX_at (.getfield 56, 3, 7, 26, 248, 0, []) rfl
theorem g131_116  : Y131 d Q 116 lv st σ ↔ Y131 d Q 117 lv (.int 0 :: st) σ := yX_at (.iconst 0, 1, 0, 0, 0, 0, []) rfl
theorem g131_117 {j : Int32} {c : Nat} : Y131 d Q 117 lv (.int j :: .ref c :: st) σ ↔ (zK c = 103 ∧ vp_in j (zLn c)) ∧ Y131 d Q 118 lv (.long (σ.2.1 c j.toNatClampNeg) :: st) σ := yX_at (.laload, 1, 0, 0, 0, 0, []) rfl
theorem g131_118  : Y131 d Q 118 lv st σ ↔ zldJ lv 6 (fun x => Y131 d Q 120 lv (.long x :: st) σ) := yX_at (.lload 6, 2, 0, 0, 0, 0, []) rfl
theorem g131_120 {x y : Int64} : Y131 d Q 120 lv (.long y :: .long x :: st) σ ↔ (¬ y = 0) ∧ Y131 d Q 121 lv (.long (x / y) :: st) σ := yX_at (.ldiv, 1, 0, 0, 0, 0, []) rfl
theorem g131_121  : Y131 d Q 121 lv st σ ↔ Y131 d Q 129 lv st σ := yX_at (.goto 8, 3, 129, 0, 0, 0, []) rfl
theorem g131_124  : Y131 d Q 124 lv st σ ↔ zldJ lv 4 (fun x => Y131 d Q 126 lv (.long x :: st) σ) := yX_at (.lload 4, 2, 0, 0, 0, 0, []) rfl
theorem g131_126  : Y131 d Q 126 lv st σ ↔ zldJ lv 6 (fun x => Y131 d Q 128 lv (.long x :: st) σ) := yX_at (.lload 6, 2, 0, 0, 0, 0, []) rfl
theorem g131_128 {x y : Int64} : Y131 d Q 128 lv (.long y :: .long x :: st) σ ↔ (¬ y = 0) ∧ Y131 d Q 129 lv (.long (x / y) :: st) σ := yX_at (.ldiv, 1, 0, 0, 0, 0, []) rfl
theorem g131_129 {x : Int64} : Y131 d Q 129 lv [.long x] σ ↔ Q (some (.long x)) σ := yX_at (.lreturn, 1, 0, 0, 0, 0, []) rfl
end G131
def Y132 (d : Nat) (Q : Option Value → zSt → Prop) (pc : Nat) (lv : zLv) (st : List Value) (σ : zSt) : Prop := yX (yE d) ySn zt132 Q pc lv st σ
theorem C132 {d : Nat} {as : List Value} {σ : zSt} {P : Option Value → zSt → Prop} (hl : (lg_sl as).length ≤ 7) (h : Y132 d P 0 (lv_args 0 as) [] σ) : yC (d + 1) 132 as σ P := yC_of (by decide) hl h
section G132
variable {d : Nat} {Q : Option Value → zSt → Prop} {lv : zLv} {st : List Value} {σ : zSt}
theorem g132_0  : Y132 d Q 0 lv st σ ↔ zldI lv 1 (fun x => Y132 d Q 1 lv (.int x :: st) σ) := yX_at (.iload_n 1, 1, 0, 0, 0, 0, []) rfl
theorem g132_1 {x : Int32} : Y132 d Q 1 lv (.int x :: st) σ ↔ Y132 d Q 2 lv (.long x.toInt64 :: st) σ := yX_at (.i2l, 1, 0, 0, 0, 0, []) rfl
theorem g132_2  : Y132 d Q 2 lv st σ ↔ Y132 d Q 3 lv (.long 0 :: st) σ := yX_at (.lconst 0, 1, 0, 0, 0, 0, []) rfl
theorem g132_3  : Y132 d Q 3 lv st σ ↔ Y132 d Q 6 lv (.long 2 :: st) σ := yX_at (.ldc2_w 193, 3, 0, 0, 241, 2, []) rfl
theorem g132_6 {v0 v1 v2 : Value} : Y132 d Q 6 lv (v2 :: v1 :: v0 :: st) σ ↔ zrm st ∧ ∃ rv σ', yE d 91 [v0, v1, v2] σ rv σ' ∧ Y132 d Q 9 lv (rv.toList ++ st) σ' := yX_at (.invokestatic 67, 3, 91, 3, 186, 0, []) rfl
theorem g132_9 {x : Int32} : Y132 d Q 9 lv (.int x :: st) σ ↔ (x = 0 → Y132 d Q 47 lv st σ) ∧ (¬ x = 0 → Y132 d Q 12 lv st σ) := yX_at (.ifCond .eq 38, 3, 47, 0, 0, 0, []) rfl
theorem g132_12  : Y132 d Q 12 lv st σ ↔ zldR lv 0 (fun x => Y132 d Q 13 lv (.ref x :: st) σ) := yX_at (.aload_n 0, 1, 0, 0, 0, 0, []) rfl
theorem g132_13 {c : Nat} : Y132 d Q 13 lv (.ref c :: st) σ ↔ zK c = 7 ∧ Y132 d Q 16 lv (zfv σ c 13 :: st) σ := yX_at (.getfield 202, 3, 7, 13, 247, 0, []) rfl
theorem g132_16  : Y132 d Q 16 lv st σ ↔ zldI lv 1 (fun x => Y132 d Q 17 lv (.int x :: st) σ) := yX_at (.iload_n 1, 1, 0, 0, 0, 0, []) rfl
theorem g132_17 {v0 v1 : Value} : Y132 d Q 17 lv (v1 :: v0 :: st) σ ↔ zrm st ∧ ∃ rv σ', yE d 92 [v0, v1] σ rv σ' ∧ Y132 d Q 20 lv (rv.toList ++ st) σ' := yX_at (.invokestatic 176, 3, 92, 2, 234, 0, []) rfl
theorem g132_20 {x : Int32} : Y132 d Q 20 lv (.int x :: st) σ ↔ (x = 0 → Y132 d Q 47 lv st σ) ∧ (¬ x = 0 → Y132 d Q 23 lv st σ) := yX_at (.ifCond .eq 27, 3, 47, 0, 0, 0, []) rfl
theorem g132_23  : Y132 d Q 23 lv st σ ↔ zldI lv 2 (fun x => Y132 d Q 24 lv (.int x :: st) σ) := yX_at (.iload_n 2, 1, 0, 0, 0, 0, []) rfl
theorem g132_24 {x : Int32} : Y132 d Q 24 lv (.int x :: st) σ ↔ Y132 d Q 25 lv (.long x.toInt64 :: st) σ := yX_at (.i2l, 1, 0, 0, 0, 0, []) rfl
theorem g132_25  : Y132 d Q 25 lv st σ ↔ Y132 d Q 26 lv (.long 1 :: st) σ := yX_at (.lconst 1, 1, 0, 0, 0, 0, []) rfl
theorem g132_26  : Y132 d Q 26 lv st σ ↔ Y132 d Q 29 lv (.long 6 :: st) σ := yX_at (.ldc2_w 208, 3, 0, 0, 251, 6, []) rfl
theorem g132_29 {v0 v1 v2 : Value} : Y132 d Q 29 lv (v2 :: v1 :: v0 :: st) σ ↔ zrm st ∧ ∃ rv σ', yE d 91 [v0, v1, v2] σ rv σ' ∧ Y132 d Q 32 lv (rv.toList ++ st) σ' := yX_at (.invokestatic 67, 3, 91, 3, 186, 0, []) rfl
theorem g132_32 {x : Int32} : Y132 d Q 32 lv (.int x :: st) σ ↔ (x = 0 → Y132 d Q 47 lv st σ) ∧ (¬ x = 0 → Y132 d Q 35 lv st σ) := yX_at (.ifCond .eq 15, 3, 47, 0, 0, 0, []) rfl
theorem g132_35  : Y132 d Q 35 lv st σ ↔ zldI lv 3 (fun x => Y132 d Q 36 lv (.int x :: st) σ) := yX_at (.iload_n 3, 1, 0, 0, 0, 0, []) rfl
theorem g132_36 {x : Int32} : Y132 d Q 36 lv (.int x :: st) σ ↔ Y132 d Q 37 lv (.long x.toInt64 :: st) σ := yX_at (.i2l, 1, 0, 0, 0, 0, []) rfl
theorem g132_37  : Y132 d Q 37 lv st σ ↔ Y132 d Q 38 lv (.long 1 :: st) σ := yX_at (.lconst 1, 1, 0, 0, 0, 0, []) rfl
theorem g132_38  : Y132 d Q 38 lv st σ ↔ Y132 d Q 41 lv (.long 5 :: st) σ := yX_at (.ldc2_w 215, 3, 0, 0, 254, 5, []) rfl
theorem g132_41 {v0 v1 v2 : Value} : Y132 d Q 41 lv (v2 :: v1 :: v0 :: st) σ ↔ zrm st ∧ ∃ rv σ', yE d 91 [v0, v1, v2] σ rv σ' ∧ Y132 d Q 44 lv (rv.toList ++ st) σ' := yX_at (.invokestatic 67, 3, 91, 3, 186, 0, []) rfl
theorem g132_44 {x : Int32} : Y132 d Q 44 lv (.int x :: st) σ ↔ (¬ x = 0 → Y132 d Q 49 lv st σ) ∧ (x = 0 → Y132 d Q 47 lv st σ) := yX_at (.ifCond .ne 5, 3, 49, 0, 0, 0, []) rfl
theorem g132_47  : Y132 d Q 47 lv st σ ↔ Y132 d Q 48 lv (.int (-1) :: st) σ := by
  rw [show (-1 : Int32) = Int32.ofInt (-1) from by decide]
  exact yX_at (.iconst (-1), 1, 0, 0, 0, 0, []) rfl
theorem g132_48 {x : Int32} : Y132 d Q 48 lv [.int x] σ ↔ Q (some (.int x)) σ := yX_at (.ireturn, 1, 0, 0, 0, 0, []) rfl
theorem g132_49  : Y132 d Q 49 lv st σ ↔ zldR lv 0 (fun x => Y132 d Q 50 lv (.ref x :: st) σ) := yX_at (.aload_n 0, 1, 0, 0, 0, 0, []) rfl
theorem g132_50  : Y132 d Q 50 lv st σ ↔ zldI lv 2 (fun x => Y132 d Q 51 lv (.int x :: st) σ) := yX_at (.iload_n 2, 1, 0, 0, 0, 0, []) rfl
theorem g132_51  : Y132 d Q 51 lv st σ ↔ Y132 d Q 52 lv (.int 1 :: st) σ := yX_at (.iconst 1, 1, 0, 0, 0, 0, []) rfl
theorem g132_52 {x y : Int32} : Y132 d Q 52 lv (.int y :: .int x :: st) σ ↔ Y132 d Q 53 lv (.int (x - y) :: st) σ := yX_at (.isub, 1, 0, 0, 0, 0, []) rfl
theorem g132_53  : Y132 d Q 53 lv st σ ↔ zldI lv 3 (fun x => Y132 d Q 54 lv (.int x :: st) σ) := yX_at (.iload_n 3, 1, 0, 0, 0, 0, []) rfl
theorem g132_54 {v0 v1 : Value} {c : Nat} : Y132 d Q 54 lv (v1 :: v0 :: .ref c :: st) σ ↔ (zrcv 7 c ∧ zrm st) ∧ ∃ rv σ', yE d 129 [.ref c, v0, v1] σ rv σ' ∧ Y132 d Q 57 lv (rv.toList ++ st) σ' := yX_at (.invokevirtual 212, 3, 129, 2, 253, 0, []) rfl
theorem g132_57  : Y132 d Q 57 lv st σ ↔ Y132 d Q 58 lv (.long 1 :: st) σ := yX_at (.lconst 1, 1, 0, 0, 0, 0, []) rfl
theorem g132_58 {x : Int64} : Y132 d Q 58 lv (.long x :: st) σ ↔ Y132 d Q 60 (zs2 4 (.long x) lv) st σ := yX_at (.lstore 4, 2, 0, 0, 0, 0, []) rfl
theorem g132_60  : Y132 d Q 60 lv st σ ↔ Y132 d Q 61 lv (.int 1 :: st) σ := yX_at (.iconst 1, 1, 0, 0, 0, 0, []) rfl
theorem g132_61 {x : Int32} : Y132 d Q 61 lv (.int x :: st) σ ↔ Y132 d Q 63 (zs1 6 (.int x) lv) st σ := yX_at (.istore 6, 2, 0, 0, 0, 0, []) rfl
theorem g132_63  : Y132 d Q 63 lv st σ ↔ zldI lv 6 (fun x => Y132 d Q 65 lv (.int x :: st) σ) := yX_at (.iload 6, 2, 0, 0, 0, 0, []) rfl
theorem g132_65  : Y132 d Q 65 lv st σ ↔ zldI lv 2 (fun x => Y132 d Q 66 lv (.int x :: st) σ) := yX_at (.iload_n 2, 1, 0, 0, 0, 0, []) rfl
theorem g132_66 {x y : Int32} : Y132 d Q 66 lv (.int y :: .int x :: st) σ ↔ (y ≤ x → Y132 d Q 83 lv st σ) ∧ (¬ y ≤ x → Y132 d Q 69 lv st σ) := yX_at (.if_icmp .ge 17, 3, 83, 0, 0, 0, []) rfl
theorem g132_69  : Y132 d Q 69 lv st σ ↔ zldJ lv 4 (fun x => Y132 d Q 71 lv (.long x :: st) σ) := yX_at (.lload 4, 2, 0, 0, 0, 0, []) rfl
theorem g132_71  : Y132 d Q 71 lv st σ ↔ Y132 d Q 74 lv (.long 10 :: st) σ := yX_at (.ldc2_w 195, 3, 0, 0, 242, 10, []) rfl
theorem g132_74 {x y : Int64} : Y132 d Q 74 lv (.long y :: .long x :: st) σ ↔ Y132 d Q 75 lv (.long (x * y) :: st) σ := yX_at (.lmul, 1, 0, 0, 0, 0, []) rfl
theorem g132_75 {x : Int64} : Y132 d Q 75 lv (.long x :: st) σ ↔ Y132 d Q 77 (zs2 4 (.long x) lv) st σ := yX_at (.lstore 4, 2, 0, 0, 0, 0, []) rfl
theorem g132_77  : Y132 d Q 77 lv st σ ↔ zldI lv 6 (fun x => Y132 d Q 80 (zs1 6 (.int (x + 1)) lv) st σ) := yX_at (.iinc 6 1, 3, 0, 0, 0, 0, []) rfl
theorem g132_80  : Y132 d Q 80 lv st σ ↔ Y132 d Q 63 lv st σ := yX_at (.goto (-17), 3, 63, 0, 0, 0, []) rfl
theorem g132_83  : Y132 d Q 83 lv st σ ↔ zldR lv 0 (fun x => Y132 d Q 84 lv (.ref x :: st) σ) := yX_at (.aload_n 0, 1, 0, 0, 0, 0, []) rfl
theorem g132_84 {c : Nat} : Y132 d Q 84 lv (.ref c :: st) σ ↔ zK c = 7 ∧ Y132 d Q 87 lv (zfv σ c 11 :: st) σ := yX_at (.getfield 35, 3, 7, 11, 245, 0, []) rfl
theorem g132_87  : Y132 d Q 87 lv st σ ↔ zldI lv 1 (fun x => Y132 d Q 88 lv (.int x :: st) σ) := yX_at (.iload_n 1, 1, 0, 0, 0, 0, []) rfl
theorem g132_88 {j : Int32} {c : Nat} : Y132 d Q 88 lv (.int j :: .ref c :: st) σ ↔ (zK c = 100 ∧ vp_in j (zLn c)) ∧ Y132 d Q 89 lv (.int (σ.1 c j.toNatClampNeg) :: st) σ := yX_at (.iaload, 1, 0, 0, 0, 0, []) rfl
theorem g132_89 {x : Int32} : Y132 d Q 89 lv (.int x :: st) σ ↔ Y132 d Q 90 lv (.long x.toInt64 :: st) σ := yX_at (.i2l, 1, 0, 0, 0, 0, []) rfl
theorem g132_90  : Y132 d Q 90 lv st σ ↔ zldJ lv 4 (fun x => Y132 d Q 92 lv (.long x :: st) σ) := yX_at (.lload 4, 2, 0, 0, 0, 0, []) rfl
theorem g132_92 {x y : Int64} : Y132 d Q 92 lv (.long y :: .long x :: st) σ ↔ Y132 d Q 93 lv (.long (x * y) :: st) σ := yX_at (.lmul, 1, 0, 0, 0, 0, []) rfl
theorem g132_93  : Y132 d Q 93 lv st σ ↔ zldR lv 0 (fun x => Y132 d Q 94 lv (.ref x :: st) σ) := yX_at (.aload_n 0, 1, 0, 0, 0, 0, []) rfl
theorem g132_94 {c : Nat} : Y132 d Q 94 lv (.ref c :: st) σ ↔ zK c = 7 ∧ Y132 d Q 97 lv (zfv σ c 26 :: st) σ := yX_at (.getfield 56, 3, 7, 26, 248, 0, []) rfl
theorem g132_97  : Y132 d Q 97 lv st σ ↔ zldR lv 0 (fun x => Y132 d Q 98 lv (.ref x :: st) σ) := yX_at (.aload_n 0, 1, 0, 0, 0, 0, []) rfl
theorem g132_98  : Y132 d Q 98 lv st σ ↔ Y132 d Q 99 lv (.int 0 :: st) σ := yX_at (.iconst 0, 1, 0, 0, 0, 0, []) rfl
theorem g132_99  : Y132 d Q 99 lv st σ ↔ zldI lv 1 (fun x => Y132 d Q 100 lv (.int x :: st) σ) := yX_at (.iload_n 1, 1, 0, 0, 0, 0, []) rfl
theorem g132_100 {v0 v1 : Value} {c : Nat} : Y132 d Q 100 lv (v1 :: v0 :: .ref c :: st) σ ↔ (zrcv 7 c ∧ zrm st) ∧ ∃ rv σ', yE d 130 [.ref c, v0, v1] σ rv σ' ∧ Y132 d Q 103 lv (rv.toList ++ st) σ' := yX_at (.invokevirtual 205, 3, 130, 2, 250, 0, []) rfl
theorem g132_103 {j : Int32} {c : Nat} : Y132 d Q 103 lv (.int j :: .ref c :: st) σ ↔ (zK c = 103 ∧ vp_in j (zLn c)) ∧ Y132 d Q 104 lv (.long (σ.2.1 c j.toNatClampNeg) :: st) σ := yX_at (.laload, 1, 0, 0, 0, 0, []) rfl
theorem g132_104 {x y : Int64} : Y132 d Q 104 lv (.long y :: .long x :: st) σ ↔ Y132 d Q 105 lv (.long (x + y) :: st) σ := yX_at (.ladd, 1, 0, 0, 0, 0, []) rfl
theorem g132_105  : Y132 d Q 105 lv st σ ↔ zldR lv 0 (fun x => Y132 d Q 106 lv (.ref x :: st) σ) := yX_at (.aload_n 0, 1, 0, 0, 0, 0, []) rfl
theorem g132_106 {c : Nat} : Y132 d Q 106 lv (.ref c :: st) σ ↔ zK c = 7 ∧ Y132 d Q 109 lv (zfv σ c 26 :: st) σ := yX_at (.getfield 56, 3, 7, 26, 248, 0, []) rfl
theorem g132_109  : Y132 d Q 109 lv st σ ↔ Y132 d Q 110 lv (.int 0 :: st) σ := yX_at (.iconst 0, 1, 0, 0, 0, 0, []) rfl
theorem g132_110 {j : Int32} {c : Nat} : Y132 d Q 110 lv (.int j :: .ref c :: st) σ ↔ (zK c = 103 ∧ vp_in j (zLn c)) ∧ Y132 d Q 111 lv (.long (σ.2.1 c j.toNatClampNeg) :: st) σ := yX_at (.laload, 1, 0, 0, 0, 0, []) rfl
theorem g132_111 {x y : Int64} : Y132 d Q 111 lv (.long y :: .long x :: st) σ ↔ Y132 d Q 112 lv (.int (lg_cmp x y) :: st) σ := yX_at (.lcmp, 1, 0, 0, 0, 0, []) rfl
theorem g132_112 {x : Int32} : Y132 d Q 112 lv (.int x :: st) σ ↔ (x < 0 → Y132 d Q 119 lv st σ) ∧ (¬ x < 0 → Y132 d Q 115 lv st σ) := yX_at (.ifCond .lt 7, 3, 119, 0, 0, 0, []) rfl
theorem g132_115  : Y132 d Q 115 lv st σ ↔ Y132 d Q 116 lv (.int 1 :: st) σ := yX_at (.iconst 1, 1, 0, 0, 0, 0, []) rfl
theorem g132_116  : Y132 d Q 116 lv st σ ↔ Y132 d Q 120 lv st σ := yX_at (.goto 4, 3, 120, 0, 0, 0, []) rfl
theorem g132_119  : Y132 d Q 119 lv st σ ↔ Y132 d Q 120 lv (.int 0 :: st) σ := yX_at (.iconst 0, 1, 0, 0, 0, 0, []) rfl
theorem g132_120 {x : Int32} : Y132 d Q 120 lv [.int x] σ ↔ Q (some (.int x)) σ := yX_at (.ireturn, 1, 0, 0, 0, 0, []) rfl
end G132
def Y133 (d : Nat) (Q : Option Value → zSt → Prop) (pc : Nat) (lv : zLv) (st : List Value) (σ : zSt) : Prop := yX (yE d) ySn zt133 Q pc lv st σ
theorem C133 {d : Nat} {as : List Value} {σ : zSt} {P : Option Value → zSt → Prop} (hl : (lg_sl as).length ≤ 6) (h : Y133 d P 0 (lv_args 0 as) [] σ) : yC (d + 1) 133 as σ P := yC_of (by decide) hl h
section G133
variable {d : Nat} {Q : Option Value → zSt → Prop} {lv : zLv} {st : List Value} {σ : zSt}
theorem g133_0  : Y133 d Q 0 lv st σ ↔ zldI lv 1 (fun x => Y133 d Q 1 lv (.int x :: st) σ) := yX_at (.iload_n 1, 1, 0, 0, 0, 0, []) rfl
theorem g133_1 {x : Int32} : Y133 d Q 1 lv (.int x :: st) σ ↔ Y133 d Q 2 (zs1 2 (.int x) lv) st σ := yX_at (.istore_n 2, 1, 0, 0, 0, 0, []) rfl
theorem g133_2  : Y133 d Q 2 lv st σ ↔ Y133 d Q 3 lv (.int 1 :: st) σ := yX_at (.iconst 1, 1, 0, 0, 0, 0, []) rfl
theorem g133_3 {x : Int32} : Y133 d Q 3 lv (.int x :: st) σ ↔ Y133 d Q 4 (zs1 3 (.int x) lv) st σ := yX_at (.istore_n 3, 1, 0, 0, 0, 0, []) rfl
theorem g133_4  : Y133 d Q 4 lv st σ ↔ zldI lv 3 (fun x => Y133 d Q 5 lv (.int x :: st) σ) := yX_at (.iload_n 3, 1, 0, 0, 0, 0, []) rfl
theorem g133_5 {x : Int32} : Y133 d Q 5 lv (.int x :: st) σ ↔ (x = 0 → Y133 d Q 101 lv st σ) ∧ (¬ x = 0 → Y133 d Q 8 lv st σ) := yX_at (.ifCond .eq 96, 3, 101, 0, 0, 0, []) rfl
theorem g133_8  : Y133 d Q 8 lv st σ ↔ Y133 d Q 9 lv (.int 0 :: st) σ := yX_at (.iconst 0, 1, 0, 0, 0, 0, []) rfl
theorem g133_9 {x : Int32} : Y133 d Q 9 lv (.int x :: st) σ ↔ Y133 d Q 11 (zs1 4 (.int x) lv) st σ := yX_at (.istore 4, 2, 0, 0, 0, 0, []) rfl
theorem g133_11  : Y133 d Q 11 lv st σ ↔ Y133 d Q 12 lv (.int 0 :: st) σ := yX_at (.iconst 0, 1, 0, 0, 0, 0, []) rfl
theorem g133_12 {x : Int32} : Y133 d Q 12 lv (.int x :: st) σ ↔ Y133 d Q 14 (zs1 5 (.int x) lv) st σ := yX_at (.istore 5, 2, 0, 0, 0, 0, []) rfl
theorem g133_14  : Y133 d Q 14 lv st σ ↔ zldI lv 5 (fun x => Y133 d Q 16 lv (.int x :: st) σ) := yX_at (.iload 5, 2, 0, 0, 0, 0, []) rfl
theorem g133_16  : Y133 d Q 16 lv st σ ↔ zldR lv 0 (fun x => Y133 d Q 17 lv (.ref x :: st) σ) := yX_at (.aload_n 0, 1, 0, 0, 0, 0, []) rfl
theorem g133_17 {c : Nat} : Y133 d Q 17 lv (.ref c :: st) σ ↔ zK c = 7 ∧ Y133 d Q 20 lv (zfv σ c 8 :: st) σ := yX_at (.getfield 133, 3, 7, 8, 218, 0, []) rfl
theorem g133_20 {x y : Int32} : Y133 d Q 20 lv (.int y :: .int x :: st) σ ↔ (y ≤ x → Y133 d Q 83 lv st σ) ∧ (¬ y ≤ x → Y133 d Q 23 lv st σ) := yX_at (.if_icmp .ge 63, 3, 83, 0, 0, 0, []) rfl
theorem g133_23  : Y133 d Q 23 lv st σ ↔ zldI lv 4 (fun x => Y133 d Q 25 lv (.int x :: st) σ) := yX_at (.iload 4, 2, 0, 0, 0, 0, []) rfl
theorem g133_25  : Y133 d Q 25 lv st σ ↔ zldI lv 2 (fun x => Y133 d Q 26 lv (.int x :: st) σ) := yX_at (.iload_n 2, 1, 0, 0, 0, 0, []) rfl
theorem g133_26  : Y133 d Q 26 lv st σ ↔ zldR lv 0 (fun x => Y133 d Q 27 lv (.ref x :: st) σ) := yX_at (.aload_n 0, 1, 0, 0, 0, 0, []) rfl
theorem g133_27 {c : Nat} : Y133 d Q 27 lv (.ref c :: st) σ ↔ zK c = 7 ∧ Y133 d Q 30 lv (zfv σ c 9 :: st) σ := yX_at (.getfield 29, 3, 7, 9, 219, 0, []) rfl
theorem g133_30  : Y133 d Q 30 lv st σ ↔ Y133 d Q 31 lv (.int 2 :: st) σ := yX_at (.iconst 2, 1, 0, 0, 0, 0, []) rfl
theorem g133_31  : Y133 d Q 31 lv st σ ↔ zldI lv 5 (fun x => Y133 d Q 33 lv (.int x :: st) σ) := yX_at (.iload 5, 2, 0, 0, 0, 0, []) rfl
theorem g133_33 {x y : Int32} : Y133 d Q 33 lv (.int y :: .int x :: st) σ ↔ Y133 d Q 34 lv (.int (x * y) :: st) σ := yX_at (.imul, 1, 0, 0, 0, 0, []) rfl
theorem g133_34 {j : Int32} {c : Nat} : Y133 d Q 34 lv (.int j :: .ref c :: st) σ ↔ (zK c = 100 ∧ vp_in j (zLn c)) ∧ Y133 d Q 35 lv (.int (σ.1 c j.toNatClampNeg) :: st) σ := yX_at (.iaload, 1, 0, 0, 0, 0, []) rfl
theorem g133_35 {v0 v1 : Value} : Y133 d Q 35 lv (v1 :: v0 :: st) σ ↔ zrm st ∧ ∃ rv σ', yE d 92 [v0, v1] σ rv σ' ∧ Y133 d Q 38 lv (rv.toList ++ st) σ' := yX_at (.invokestatic 176, 3, 92, 2, 234, 0, []) rfl
theorem g133_38 {x : Int32} : Y133 d Q 38 lv (.int x :: st) σ ↔ (x = 0 → Y133 d Q 73 lv st σ) ∧ (¬ x = 0 → Y133 d Q 41 lv st σ) := yX_at (.ifCond .eq 35, 3, 73, 0, 0, 0, []) rfl
theorem g133_41  : Y133 d Q 41 lv st σ ↔ zldI lv 2 (fun x => Y133 d Q 42 lv (.int x :: st) σ) := yX_at (.iload_n 2, 1, 0, 0, 0, 0, []) rfl
theorem g133_42  : Y133 d Q 42 lv st σ ↔ zldR lv 0 (fun x => Y133 d Q 43 lv (.ref x :: st) σ) := yX_at (.aload_n 0, 1, 0, 0, 0, 0, []) rfl
theorem g133_43 {c : Nat} : Y133 d Q 43 lv (.ref c :: st) σ ↔ zK c = 7 ∧ Y133 d Q 46 lv (zfv σ c 9 :: st) σ := yX_at (.getfield 29, 3, 7, 9, 219, 0, []) rfl
theorem g133_46  : Y133 d Q 46 lv st σ ↔ Y133 d Q 47 lv (.int 2 :: st) σ := yX_at (.iconst 2, 1, 0, 0, 0, 0, []) rfl
theorem g133_47  : Y133 d Q 47 lv st σ ↔ zldI lv 5 (fun x => Y133 d Q 49 lv (.int x :: st) σ) := yX_at (.iload 5, 2, 0, 0, 0, 0, []) rfl
theorem g133_49 {x y : Int32} : Y133 d Q 49 lv (.int y :: .int x :: st) σ ↔ Y133 d Q 50 lv (.int (x * y) :: st) σ := yX_at (.imul, 1, 0, 0, 0, 0, []) rfl
theorem g133_50  : Y133 d Q 50 lv st σ ↔ Y133 d Q 51 lv (.int 1 :: st) σ := yX_at (.iconst 1, 1, 0, 0, 0, 0, []) rfl
theorem g133_51 {x y : Int32} : Y133 d Q 51 lv (.int y :: .int x :: st) σ ↔ Y133 d Q 52 lv (.int (x + y) :: st) σ := yX_at (.iadd, 1, 0, 0, 0, 0, []) rfl
theorem g133_52 {j : Int32} {c : Nat} : Y133 d Q 52 lv (.int j :: .ref c :: st) σ ↔ (zK c = 100 ∧ vp_in j (zLn c)) ∧ Y133 d Q 53 lv (.int (σ.1 c j.toNatClampNeg) :: st) σ := yX_at (.iaload, 1, 0, 0, 0, 0, []) rfl
theorem g133_53 {v0 v1 : Value} : Y133 d Q 53 lv (v1 :: v0 :: st) σ ↔ zrm st ∧ ∃ rv σ', yE d 92 [v0, v1] σ rv σ' ∧ Y133 d Q 56 lv (rv.toList ++ st) σ' := yX_at (.invokestatic 176, 3, 92, 2, 234, 0, []) rfl
theorem g133_56 {x : Int32} : Y133 d Q 56 lv (.int x :: st) σ ↔ (x = 0 → Y133 d Q 73 lv st σ) ∧ (¬ x = 0 → Y133 d Q 59 lv st σ) := yX_at (.ifCond .eq 17, 3, 73, 0, 0, 0, []) rfl
theorem g133_59  : Y133 d Q 59 lv st σ ↔ Y133 d Q 60 lv (.int 1 :: st) σ := yX_at (.iconst 1, 1, 0, 0, 0, 0, []) rfl
theorem g133_60  : Y133 d Q 60 lv st σ ↔ zldR lv 0 (fun x => Y133 d Q 61 lv (.ref x :: st) σ) := yX_at (.aload_n 0, 1, 0, 0, 0, 0, []) rfl
theorem g133_61 {c : Nat} : Y133 d Q 61 lv (.ref c :: st) σ ↔ zK c = 7 ∧ Y133 d Q 64 lv (zfv σ c 9 :: st) σ := yX_at (.getfield 29, 3, 7, 9, 219, 0, []) rfl
theorem g133_64  : Y133 d Q 64 lv st σ ↔ Y133 d Q 65 lv (.int 2 :: st) σ := yX_at (.iconst 2, 1, 0, 0, 0, 0, []) rfl
theorem g133_65  : Y133 d Q 65 lv st σ ↔ zldI lv 5 (fun x => Y133 d Q 67 lv (.int x :: st) σ) := yX_at (.iload 5, 2, 0, 0, 0, 0, []) rfl
theorem g133_67 {x y : Int32} : Y133 d Q 67 lv (.int y :: .int x :: st) σ ↔ Y133 d Q 68 lv (.int (x * y) :: st) σ := yX_at (.imul, 1, 0, 0, 0, 0, []) rfl
theorem g133_68 {j : Int32} {c : Nat} : Y133 d Q 68 lv (.int j :: .ref c :: st) σ ↔ (zK c = 100 ∧ vp_in j (zLn c)) ∧ Y133 d Q 69 lv (.int (σ.1 c j.toNatClampNeg) :: st) σ := yX_at (.iaload, 1, 0, 0, 0, 0, []) rfl
theorem g133_69 {x y : Int32} : Y133 d Q 69 lv (.int y :: .int x :: st) σ ↔ Y133 d Q 70 lv (.int (x <<< (y &&& 31)) :: st) σ := yX_at (.ishl, 1, 0, 0, 0, 0, []) rfl
theorem g133_70  : Y133 d Q 70 lv st σ ↔ Y133 d Q 74 lv st σ := yX_at (.goto 4, 3, 74, 0, 0, 0, []) rfl
theorem g133_73  : Y133 d Q 73 lv st σ ↔ Y133 d Q 74 lv (.int 0 :: st) σ := yX_at (.iconst 0, 1, 0, 0, 0, 0, []) rfl
theorem g133_74 {x y : Int32} : Y133 d Q 74 lv (.int y :: .int x :: st) σ ↔ Y133 d Q 75 lv (.int (x ||| y) :: st) σ := yX_at (.ior, 1, 0, 0, 0, 0, []) rfl
theorem g133_75 {x : Int32} : Y133 d Q 75 lv (.int x :: st) σ ↔ Y133 d Q 77 (zs1 4 (.int x) lv) st σ := yX_at (.istore 4, 2, 0, 0, 0, 0, []) rfl
theorem g133_77  : Y133 d Q 77 lv st σ ↔ zldI lv 5 (fun x => Y133 d Q 80 (zs1 5 (.int (x + 1)) lv) st σ) := yX_at (.iinc 5 1, 3, 0, 0, 0, 0, []) rfl
theorem g133_80  : Y133 d Q 80 lv st σ ↔ Y133 d Q 14 lv st σ := yX_at (.goto (-66), 3, 14, 0, 0, 0, []) rfl
theorem g133_83  : Y133 d Q 83 lv st σ ↔ zldI lv 4 (fun x => Y133 d Q 85 lv (.int x :: st) σ) := yX_at (.iload 4, 2, 0, 0, 0, 0, []) rfl
theorem g133_85  : Y133 d Q 85 lv st σ ↔ zldI lv 2 (fun x => Y133 d Q 86 lv (.int x :: st) σ) := yX_at (.iload_n 2, 1, 0, 0, 0, 0, []) rfl
theorem g133_86 {x y : Int32} : Y133 d Q 86 lv (.int y :: .int x :: st) σ ↔ (x = y → Y133 d Q 93 lv st σ) ∧ (¬ x = y → Y133 d Q 89 lv st σ) := yX_at (.if_icmp .eq 7, 3, 93, 0, 0, 0, []) rfl
theorem g133_89  : Y133 d Q 89 lv st σ ↔ Y133 d Q 90 lv (.int 1 :: st) σ := yX_at (.iconst 1, 1, 0, 0, 0, 0, []) rfl
theorem g133_90  : Y133 d Q 90 lv st σ ↔ Y133 d Q 94 lv st σ := yX_at (.goto 4, 3, 94, 0, 0, 0, []) rfl
theorem g133_93  : Y133 d Q 93 lv st σ ↔ Y133 d Q 94 lv (.int 0 :: st) σ := yX_at (.iconst 0, 1, 0, 0, 0, 0, []) rfl
theorem g133_94 {x : Int32} : Y133 d Q 94 lv (.int x :: st) σ ↔ Y133 d Q 95 (zs1 3 (.int x) lv) st σ := yX_at (.istore_n 3, 1, 0, 0, 0, 0, []) rfl
theorem g133_95  : Y133 d Q 95 lv st σ ↔ zldI lv 4 (fun x => Y133 d Q 97 lv (.int x :: st) σ) := yX_at (.iload 4, 2, 0, 0, 0, 0, []) rfl
theorem g133_97 {x : Int32} : Y133 d Q 97 lv (.int x :: st) σ ↔ Y133 d Q 98 (zs1 2 (.int x) lv) st σ := yX_at (.istore_n 2, 1, 0, 0, 0, 0, []) rfl
theorem g133_98  : Y133 d Q 98 lv st σ ↔ Y133 d Q 4 lv st σ := yX_at (.goto (-94), 3, 4, 0, 0, 0, []) rfl
theorem g133_101  : Y133 d Q 101 lv st σ ↔ zldI lv 2 (fun x => Y133 d Q 102 lv (.int x :: st) σ) := yX_at (.iload_n 2, 1, 0, 0, 0, 0, []) rfl
theorem g133_102 {x : Int32} : Y133 d Q 102 lv [.int x] σ ↔ Q (some (.int x)) σ := yX_at (.ireturn, 1, 0, 0, 0, 0, []) rfl
end G133
def Y134 (d : Nat) (Q : Option Value → zSt → Prop) (pc : Nat) (lv : zLv) (st : List Value) (σ : zSt) : Prop := yX (yE d) ySn zt134 Q pc lv st σ
theorem C134 {d : Nat} {as : List Value} {σ : zSt} {P : Option Value → zSt → Prop} (hl : (lg_sl as).length ≤ 1) (h : Y134 d P 0 (lv_args 0 as) [] σ) : yC (d + 1) 134 as σ P := yC_of (by decide) hl h
section G134
variable {d : Nat} {Q : Option Value → zSt → Prop} {lv : zLv} {st : List Value} {σ : zSt}
theorem g134_0  : Y134 d Q 0 lv st σ ↔ Y134 d Q 1 lv (.int 1 :: st) σ := yX_at (.iconst 1, 1, 0, 0, 0, 0, []) rfl
theorem g134_1  : Y134 d Q 1 lv st σ ↔ zldR lv 0 (fun x => Y134 d Q 2 lv (.ref x :: st) σ) := yX_at (.aload_n 0, 1, 0, 0, 0, 0, []) rfl
theorem g134_2 {c : Nat} : Y134 d Q 2 lv (.ref c :: st) σ ↔ zK c = 7 ∧ Y134 d Q 5 lv (zfv σ c 6 :: st) σ := yX_at (.getfield 71, 3, 7, 6, 187, 0, []) rfl
theorem g134_5 {x y : Int32} : Y134 d Q 5 lv (.int y :: .int x :: st) σ ↔ Y134 d Q 6 lv (.int (x <<< (y &&& 31)) :: st) σ := yX_at (.ishl, 1, 0, 0, 0, 0, []) rfl
theorem g134_6  : Y134 d Q 6 lv st σ ↔ Y134 d Q 7 lv (.int 1 :: st) σ := yX_at (.iconst 1, 1, 0, 0, 0, 0, []) rfl
theorem g134_7 {x y : Int32} : Y134 d Q 7 lv (.int y :: .int x :: st) σ ↔ Y134 d Q 8 lv (.int (x - y) :: st) σ := yX_at (.isub, 1, 0, 0, 0, 0, []) rfl
theorem g134_8 {x : Int32} : Y134 d Q 8 lv [.int x] σ ↔ Q (some (.int x)) σ := yX_at (.ireturn, 1, 0, 0, 0, 0, []) rfl
end G134
def Y135 (d : Nat) (Q : Option Value → zSt → Prop) (pc : Nat) (lv : zLv) (st : List Value) (σ : zSt) : Prop := yX (yE d) ySn zt135 Q pc lv st σ
theorem C135 {d : Nat} {as : List Value} {σ : zSt} {P : Option Value → zSt → Prop} (hl : (lg_sl as).length ≤ 1) (h : Y135 d P 0 (lv_args 0 as) [] σ) : yC (d + 1) 135 as σ P := yC_of (by decide) hl h
section G135
variable {d : Nat} {Q : Option Value → zSt → Prop} {lv : zLv} {st : List Value} {σ : zSt}
theorem g135_0  : Y135 d Q 0 lv st σ ↔ zldR lv 0 (fun x => Y135 d Q 1 lv (.ref x :: st) σ) := yX_at (.aload_n 0, 1, 0, 0, 0, 0, []) rfl
theorem g135_1  : Y135 d Q 1 lv st σ ↔ zldR lv 0 (fun x => Y135 d Q 2 lv (.ref x :: st) σ) := yX_at (.aload_n 0, 1, 0, 0, 0, 0, []) rfl
theorem g135_2 {c : Nat} : Y135 d Q 2 lv (.ref c :: st) σ ↔ (zrcv 7 c ∧ zrm st) ∧ ∃ rv σ', yE d 134 [.ref c] σ rv σ' ∧ Y135 d Q 5 lv (rv.toList ++ st) σ' := yX_at (.invokevirtual 217, 3, 134, 0, 255, 0, []) rfl
theorem g135_5 {v0 : Value} {c : Nat} : Y135 d Q 5 lv (v0 :: .ref c :: st) σ ↔ (zrcv 7 c ∧ zrm st) ∧ ∃ rv σ', yE d 133 [.ref c, v0] σ rv σ' ∧ Y135 d Q 8 lv (rv.toList ++ st) σ' := yX_at (.invokevirtual 220, 3, 133, 1, 256, 0, []) rfl
theorem g135_8 {x : Int32} : Y135 d Q 8 lv (.int x :: st) σ ↔ (¬ x = 0 → Y135 d Q 15 lv st σ) ∧ (x = 0 → Y135 d Q 11 lv st σ) := yX_at (.ifCond .ne 7, 3, 15, 0, 0, 0, []) rfl
theorem g135_11  : Y135 d Q 11 lv st σ ↔ Y135 d Q 12 lv (.int 0 :: st) σ := yX_at (.iconst 0, 1, 0, 0, 0, 0, []) rfl
theorem g135_12  : Y135 d Q 12 lv st σ ↔ Y135 d Q 16 lv st σ := yX_at (.goto 4, 3, 16, 0, 0, 0, []) rfl
theorem g135_15  : Y135 d Q 15 lv st σ ↔ Y135 d Q 16 lv (.int 1 :: st) σ := yX_at (.iconst 1, 1, 0, 0, 0, 0, []) rfl
theorem g135_16 {x : Int32} : Y135 d Q 16 lv [.int x] σ ↔ Q (some (.int x)) σ := yX_at (.ireturn, 1, 0, 0, 0, 0, []) rfl
end G135
def Y136 (d : Nat) (Q : Option Value → zSt → Prop) (pc : Nat) (lv : zLv) (st : List Value) (σ : zSt) : Prop := yX (yE d) ySn zt136 Q pc lv st σ
theorem C136 {d : Nat} {as : List Value} {σ : zSt} {P : Option Value → zSt → Prop} (hl : (lg_sl as).length ≤ 7) (h : Y136 d P 0 (lv_args 0 as) [] σ) : yC (d + 1) 136 as σ P := yC_of (by decide) hl h
section G136
variable {d : Nat} {Q : Option Value → zSt → Prop} {lv : zLv} {st : List Value} {σ : zSt}
theorem g136_0  : Y136 d Q 0 lv st σ ↔ zldI lv 1 (fun x => Y136 d Q 1 lv (.int x :: st) σ) := yX_at (.iload_n 1, 1, 0, 0, 0, 0, []) rfl
theorem g136_1 {x : Int32} : Y136 d Q 1 lv (.int x :: st) σ ↔ (0 ≤ x → Y136 d Q 6 lv st σ) ∧ (¬ 0 ≤ x → Y136 d Q 4 lv st σ) := yX_at (.ifCond .ge 5, 3, 6, 0, 0, 0, []) rfl
theorem g136_4  : Y136 d Q 4 lv st σ ↔ Y136 d Q 5 lv (.int (-1) :: st) σ := by
  rw [show (-1 : Int32) = Int32.ofInt (-1) from by decide]
  exact yX_at (.iconst (-1), 1, 0, 0, 0, 0, []) rfl
theorem g136_5 {x : Int32} : Y136 d Q 5 lv [.int x] σ ↔ Q (some (.int x)) σ := yX_at (.ireturn, 1, 0, 0, 0, 0, []) rfl
theorem g136_6  : Y136 d Q 6 lv st σ ↔ zldR lv 0 (fun x => Y136 d Q 7 lv (.ref x :: st) σ) := yX_at (.aload_n 0, 1, 0, 0, 0, 0, []) rfl
theorem g136_7 {c : Nat} : Y136 d Q 7 lv (.ref c :: st) σ ↔ (zrcv 7 c ∧ zrm st) ∧ ∃ rv σ', yE d 135 [.ref c] σ rv σ' ∧ Y136 d Q 10 lv (rv.toList ++ st) σ' := yX_at (.invokevirtual 223, 3, 135, 0, 257, 0, []) rfl
theorem g136_10  : Y136 d Q 10 lv st σ ↔ Y136 d Q 11 lv (.int 1 :: st) σ := yX_at (.iconst 1, 1, 0, 0, 0, 0, []) rfl
theorem g136_11 {x y : Int32} : Y136 d Q 11 lv (.int y :: .int x :: st) σ ↔ (¬ x = y → Y136 d Q 17 lv st σ) ∧ (x = y → Y136 d Q 14 lv st σ) := yX_at (.if_icmp .ne 6, 3, 17, 0, 0, 0, []) rfl
theorem g136_14  : Y136 d Q 14 lv st σ ↔ Y136 d Q 16 lv (.int (-9) :: st) σ := by
  rw [show (-9 : Int32) = (Int8.ofInt (-9)).toInt32 from by decide]
  exact yX_at (.bipush (-9), 2, 0, 0, 0, 0, []) rfl
theorem g136_16 {x : Int32} : Y136 d Q 16 lv [.int x] σ ↔ Q (some (.int x)) σ := yX_at (.ireturn, 1, 0, 0, 0, 0, []) rfl
theorem g136_17  : Y136 d Q 17 lv st σ ↔ zldI lv 1 (fun x => Y136 d Q 18 lv (.int x :: st) σ) := yX_at (.iload_n 1, 1, 0, 0, 0, 0, []) rfl
theorem g136_18  : Y136 d Q 18 lv st σ ↔ zldR lv 0 (fun x => Y136 d Q 19 lv (.ref x :: st) σ) := yX_at (.aload_n 0, 1, 0, 0, 0, 0, []) rfl
theorem g136_19 {c : Nat} : Y136 d Q 19 lv (.ref c :: st) σ ↔ zK c = 7 ∧ Y136 d Q 22 lv (zfv σ c 6 :: st) σ := yX_at (.getfield 71, 3, 7, 6, 187, 0, []) rfl
theorem g136_22 {x y : Int32} : Y136 d Q 22 lv (.int y :: .int x :: st) σ ↔ (x < y → Y136 d Q 28 lv st σ) ∧ (¬ x < y → Y136 d Q 25 lv st σ) := yX_at (.if_icmp .lt 6, 3, 28, 0, 0, 0, []) rfl
theorem g136_25  : Y136 d Q 25 lv st σ ↔ Y136 d Q 27 lv (.int (-5) :: st) σ := by
  rw [show (-5 : Int32) = (Int8.ofInt (-5)).toInt32 from by decide]
  exact yX_at (.bipush (-5), 2, 0, 0, 0, 0, []) rfl
theorem g136_27 {x : Int32} : Y136 d Q 27 lv [.int x] σ ↔ Q (some (.int x)) σ := yX_at (.ireturn, 1, 0, 0, 0, 0, []) rfl
theorem g136_28  : Y136 d Q 28 lv st σ ↔ zldR lv 0 (fun x => Y136 d Q 29 lv (.ref x :: st) σ) := yX_at (.aload_n 0, 1, 0, 0, 0, 0, []) rfl
theorem g136_29 {c : Nat} : Y136 d Q 29 lv (.ref c :: st) σ ↔ (zrcv 7 c ∧ zrm st) ∧ ∃ rv σ', yE d 134 [.ref c] σ rv σ' ∧ Y136 d Q 32 lv (rv.toList ++ st) σ' := yX_at (.invokevirtual 217, 3, 134, 0, 255, 0, []) rfl
theorem g136_32 {x : Int32} : Y136 d Q 32 lv (.int x :: st) σ ↔ Y136 d Q 33 (zs1 2 (.int x) lv) st σ := yX_at (.istore_n 2, 1, 0, 0, 0, 0, []) rfl
theorem g136_33  : Y136 d Q 33 lv st σ ↔ Y136 d Q 34 lv (.int 0 :: st) σ := yX_at (.iconst 0, 1, 0, 0, 0, 0, []) rfl
theorem g136_34 {x : Int32} : Y136 d Q 34 lv (.int x :: st) σ ↔ Y136 d Q 35 (zs1 3 (.int x) lv) st σ := yX_at (.istore_n 3, 1, 0, 0, 0, 0, []) rfl
theorem g136_35  : Y136 d Q 35 lv st σ ↔ Y136 d Q 36 lv (.int 0 :: st) σ := yX_at (.iconst 0, 1, 0, 0, 0, 0, []) rfl
theorem g136_36 {x : Int32} : Y136 d Q 36 lv (.int x :: st) σ ↔ Y136 d Q 38 (zs1 4 (.int x) lv) st σ := yX_at (.istore 4, 2, 0, 0, 0, 0, []) rfl
theorem g136_38  : Y136 d Q 38 lv st σ ↔ zldI lv 4 (fun x => Y136 d Q 40 lv (.int x :: st) σ) := yX_at (.iload 4, 2, 0, 0, 0, 0, []) rfl
theorem g136_40  : Y136 d Q 40 lv st σ ↔ zldI lv 1 (fun x => Y136 d Q 41 lv (.int x :: st) σ) := yX_at (.iload_n 1, 1, 0, 0, 0, 0, []) rfl
theorem g136_41 {x y : Int32} : Y136 d Q 41 lv (.int y :: .int x :: st) σ ↔ (y < x → Y136 d Q 138 lv st σ) ∧ (¬ y < x → Y136 d Q 44 lv st σ) := yX_at (.if_icmp .gt 97, 3, 138, 0, 0, 0, []) rfl
theorem g136_44  : Y136 d Q 44 lv st σ ↔ Y136 d Q 45 lv (.int 0 :: st) σ := yX_at (.iconst 0, 1, 0, 0, 0, 0, []) rfl
theorem g136_45 {x : Int32} : Y136 d Q 45 lv (.int x :: st) σ ↔ Y136 d Q 47 (zs1 5 (.int x) lv) st σ := yX_at (.istore 5, 2, 0, 0, 0, 0, []) rfl
theorem g136_47  : Y136 d Q 47 lv st σ ↔ Y136 d Q 48 lv (.int 0 :: st) σ := yX_at (.iconst 0, 1, 0, 0, 0, 0, []) rfl
theorem g136_48 {x : Int32} : Y136 d Q 48 lv (.int x :: st) σ ↔ Y136 d Q 50 (zs1 6 (.int x) lv) st σ := yX_at (.istore 6, 2, 0, 0, 0, 0, []) rfl
theorem g136_50  : Y136 d Q 50 lv st σ ↔ zldI lv 6 (fun x => Y136 d Q 52 lv (.int x :: st) σ) := yX_at (.iload 6, 2, 0, 0, 0, 0, []) rfl
theorem g136_52  : Y136 d Q 52 lv st σ ↔ zldR lv 0 (fun x => Y136 d Q 53 lv (.ref x :: st) σ) := yX_at (.aload_n 0, 1, 0, 0, 0, 0, []) rfl
theorem g136_53 {c : Nat} : Y136 d Q 53 lv (.ref c :: st) σ ↔ zK c = 7 ∧ Y136 d Q 56 lv (zfv σ c 8 :: st) σ := yX_at (.getfield 133, 3, 7, 8, 218, 0, []) rfl
theorem g136_56 {x y : Int32} : Y136 d Q 56 lv (.int y :: .int x :: st) σ ↔ (y ≤ x → Y136 d Q 103 lv st σ) ∧ (¬ y ≤ x → Y136 d Q 59 lv st σ) := yX_at (.if_icmp .ge 47, 3, 103, 0, 0, 0, []) rfl
theorem g136_59  : Y136 d Q 59 lv st σ ↔ zldI lv 5 (fun x => Y136 d Q 61 lv (.int x :: st) σ) := yX_at (.iload 5, 2, 0, 0, 0, 0, []) rfl
theorem g136_61  : Y136 d Q 61 lv st σ ↔ zldI lv 2 (fun x => Y136 d Q 62 lv (.int x :: st) σ) := yX_at (.iload_n 2, 1, 0, 0, 0, 0, []) rfl
theorem g136_62  : Y136 d Q 62 lv st σ ↔ zldR lv 0 (fun x => Y136 d Q 63 lv (.ref x :: st) σ) := yX_at (.aload_n 0, 1, 0, 0, 0, 0, []) rfl
theorem g136_63 {c : Nat} : Y136 d Q 63 lv (.ref c :: st) σ ↔ zK c = 7 ∧ Y136 d Q 66 lv (zfv σ c 9 :: st) σ := yX_at (.getfield 29, 3, 7, 9, 219, 0, []) rfl
theorem g136_66  : Y136 d Q 66 lv st σ ↔ Y136 d Q 67 lv (.int 2 :: st) σ := yX_at (.iconst 2, 1, 0, 0, 0, 0, []) rfl
theorem g136_67  : Y136 d Q 67 lv st σ ↔ zldI lv 6 (fun x => Y136 d Q 69 lv (.int x :: st) σ) := yX_at (.iload 6, 2, 0, 0, 0, 0, []) rfl
theorem g136_69 {x y : Int32} : Y136 d Q 69 lv (.int y :: .int x :: st) σ ↔ Y136 d Q 70 lv (.int (x * y) :: st) σ := yX_at (.imul, 1, 0, 0, 0, 0, []) rfl
theorem g136_70  : Y136 d Q 70 lv st σ ↔ Y136 d Q 71 lv (.int 1 :: st) σ := yX_at (.iconst 1, 1, 0, 0, 0, 0, []) rfl
theorem g136_71 {x y : Int32} : Y136 d Q 71 lv (.int y :: .int x :: st) σ ↔ Y136 d Q 72 lv (.int (x + y) :: st) σ := yX_at (.iadd, 1, 0, 0, 0, 0, []) rfl
theorem g136_72 {j : Int32} {c : Nat} : Y136 d Q 72 lv (.int j :: .ref c :: st) σ ↔ (zK c = 100 ∧ vp_in j (zLn c)) ∧ Y136 d Q 73 lv (.int (σ.1 c j.toNatClampNeg) :: st) σ := yX_at (.iaload, 1, 0, 0, 0, 0, []) rfl
theorem g136_73 {v0 v1 : Value} : Y136 d Q 73 lv (v1 :: v0 :: st) σ ↔ zrm st ∧ ∃ rv σ', yE d 92 [v0, v1] σ rv σ' ∧ Y136 d Q 76 lv (rv.toList ++ st) σ' := yX_at (.invokestatic 176, 3, 92, 2, 234, 0, []) rfl
theorem g136_76 {x : Int32} : Y136 d Q 76 lv (.int x :: st) σ ↔ (x = 0 → Y136 d Q 93 lv st σ) ∧ (¬ x = 0 → Y136 d Q 79 lv st σ) := yX_at (.ifCond .eq 17, 3, 93, 0, 0, 0, []) rfl
theorem g136_79  : Y136 d Q 79 lv st σ ↔ Y136 d Q 80 lv (.int 1 :: st) σ := yX_at (.iconst 1, 1, 0, 0, 0, 0, []) rfl
theorem g136_80  : Y136 d Q 80 lv st σ ↔ zldR lv 0 (fun x => Y136 d Q 81 lv (.ref x :: st) σ) := yX_at (.aload_n 0, 1, 0, 0, 0, 0, []) rfl
theorem g136_81 {c : Nat} : Y136 d Q 81 lv (.ref c :: st) σ ↔ zK c = 7 ∧ Y136 d Q 84 lv (zfv σ c 9 :: st) σ := yX_at (.getfield 29, 3, 7, 9, 219, 0, []) rfl
theorem g136_84  : Y136 d Q 84 lv st σ ↔ Y136 d Q 85 lv (.int 2 :: st) σ := yX_at (.iconst 2, 1, 0, 0, 0, 0, []) rfl
theorem g136_85  : Y136 d Q 85 lv st σ ↔ zldI lv 6 (fun x => Y136 d Q 87 lv (.int x :: st) σ) := yX_at (.iload 6, 2, 0, 0, 0, 0, []) rfl
theorem g136_87 {x y : Int32} : Y136 d Q 87 lv (.int y :: .int x :: st) σ ↔ Y136 d Q 88 lv (.int (x * y) :: st) σ := yX_at (.imul, 1, 0, 0, 0, 0, []) rfl
theorem g136_88 {j : Int32} {c : Nat} : Y136 d Q 88 lv (.int j :: .ref c :: st) σ ↔ (zK c = 100 ∧ vp_in j (zLn c)) ∧ Y136 d Q 89 lv (.int (σ.1 c j.toNatClampNeg) :: st) σ := yX_at (.iaload, 1, 0, 0, 0, 0, []) rfl
theorem g136_89 {x y : Int32} : Y136 d Q 89 lv (.int y :: .int x :: st) σ ↔ Y136 d Q 90 lv (.int (x <<< (y &&& 31)) :: st) σ := yX_at (.ishl, 1, 0, 0, 0, 0, []) rfl
theorem g136_90  : Y136 d Q 90 lv st σ ↔ Y136 d Q 94 lv st σ := yX_at (.goto 4, 3, 94, 0, 0, 0, []) rfl
theorem g136_93  : Y136 d Q 93 lv st σ ↔ Y136 d Q 94 lv (.int 0 :: st) σ := yX_at (.iconst 0, 1, 0, 0, 0, 0, []) rfl
theorem g136_94 {x y : Int32} : Y136 d Q 94 lv (.int y :: .int x :: st) σ ↔ Y136 d Q 95 lv (.int (x ||| y) :: st) σ := yX_at (.ior, 1, 0, 0, 0, 0, []) rfl
theorem g136_95 {x : Int32} : Y136 d Q 95 lv (.int x :: st) σ ↔ Y136 d Q 97 (zs1 5 (.int x) lv) st σ := yX_at (.istore 5, 2, 0, 0, 0, 0, []) rfl
theorem g136_97  : Y136 d Q 97 lv st σ ↔ zldI lv 6 (fun x => Y136 d Q 100 (zs1 6 (.int (x + 1)) lv) st σ) := yX_at (.iinc 6 1, 3, 0, 0, 0, 0, []) rfl
theorem g136_100  : Y136 d Q 100 lv st σ ↔ Y136 d Q 50 lv st σ := yX_at (.goto (-50), 3, 50, 0, 0, 0, []) rfl
theorem g136_103  : Y136 d Q 103 lv st σ ↔ Y136 d Q 104 lv (.int 0 :: st) σ := yX_at (.iconst 0, 1, 0, 0, 0, 0, []) rfl
theorem g136_104 {x : Int32} : Y136 d Q 104 lv (.int x :: st) σ ↔ Y136 d Q 105 (zs1 3 (.int x) lv) st σ := yX_at (.istore_n 3, 1, 0, 0, 0, 0, []) rfl
theorem g136_105  : Y136 d Q 105 lv st σ ↔ zldI lv 2 (fun x => Y136 d Q 106 lv (.int x :: st) σ) := yX_at (.iload_n 2, 1, 0, 0, 0, 0, []) rfl
theorem g136_106  : Y136 d Q 106 lv st σ ↔ zldI lv 5 (fun x => Y136 d Q 108 lv (.int x :: st) σ) := yX_at (.iload 5, 2, 0, 0, 0, 0, []) rfl
theorem g136_108  : Y136 d Q 108 lv st σ ↔ Y136 d Q 109 lv (.int (-1) :: st) σ := by
  rw [show (-1 : Int32) = Int32.ofInt (-1) from by decide]
  exact yX_at (.iconst (-1), 1, 0, 0, 0, 0, []) rfl
theorem g136_109 {x y : Int32} : Y136 d Q 109 lv (.int y :: .int x :: st) σ ↔ Y136 d Q 110 lv (.int (x ^^^ y) :: st) σ := yX_at (.ixor, 1, 0, 0, 0, 0, []) rfl
theorem g136_110 {x y : Int32} : Y136 d Q 110 lv (.int y :: .int x :: st) σ ↔ Y136 d Q 111 lv (.int (x &&& y) :: st) σ := yX_at (.iand, 1, 0, 0, 0, 0, []) rfl
theorem g136_111  : Y136 d Q 111 lv st σ ↔ zldI lv 3 (fun x => Y136 d Q 112 lv (.int x :: st) σ) := yX_at (.iload_n 3, 1, 0, 0, 0, 0, []) rfl
theorem g136_112 {v0 v1 : Value} : Y136 d Q 112 lv (v1 :: v0 :: st) σ ↔ zrm st ∧ ∃ rv σ', yE d 92 [v0, v1] σ rv σ' ∧ Y136 d Q 115 lv (rv.toList ++ st) σ' := yX_at (.invokestatic 176, 3, 92, 2, 234, 0, []) rfl
theorem g136_115 {x : Int32} : Y136 d Q 115 lv (.int x :: st) σ ↔ (¬ x = 0 → Y136 d Q 124 lv st σ) ∧ (x = 0 → Y136 d Q 118 lv st σ) := yX_at (.ifCond .ne 9, 3, 124, 0, 0, 0, []) rfl
theorem g136_118  : Y136 d Q 118 lv st σ ↔ zldI lv 3 (fun x => Y136 d Q 121 (zs1 3 (.int (x + 1)) lv) st σ) := yX_at (.iinc 3 1, 3, 0, 0, 0, 0, []) rfl
theorem g136_121  : Y136 d Q 121 lv st σ ↔ Y136 d Q 105 lv st σ := yX_at (.goto (-16), 3, 105, 0, 0, 0, []) rfl
theorem g136_124  : Y136 d Q 124 lv st σ ↔ zldI lv 2 (fun x => Y136 d Q 125 lv (.int x :: st) σ) := yX_at (.iload_n 2, 1, 0, 0, 0, 0, []) rfl
theorem g136_125  : Y136 d Q 125 lv st σ ↔ Y136 d Q 126 lv (.int 1 :: st) σ := yX_at (.iconst 1, 1, 0, 0, 0, 0, []) rfl
theorem g136_126  : Y136 d Q 126 lv st σ ↔ zldI lv 3 (fun x => Y136 d Q 127 lv (.int x :: st) σ) := yX_at (.iload_n 3, 1, 0, 0, 0, 0, []) rfl
theorem g136_127 {x y : Int32} : Y136 d Q 127 lv (.int y :: .int x :: st) σ ↔ Y136 d Q 128 lv (.int (x <<< (y &&& 31)) :: st) σ := yX_at (.ishl, 1, 0, 0, 0, 0, []) rfl
theorem g136_128  : Y136 d Q 128 lv st σ ↔ Y136 d Q 129 lv (.int (-1) :: st) σ := by
  rw [show (-1 : Int32) = Int32.ofInt (-1) from by decide]
  exact yX_at (.iconst (-1), 1, 0, 0, 0, 0, []) rfl
theorem g136_129 {x y : Int32} : Y136 d Q 129 lv (.int y :: .int x :: st) σ ↔ Y136 d Q 130 lv (.int (x ^^^ y) :: st) σ := yX_at (.ixor, 1, 0, 0, 0, 0, []) rfl
theorem g136_130 {x y : Int32} : Y136 d Q 130 lv (.int y :: .int x :: st) σ ↔ Y136 d Q 131 lv (.int (x &&& y) :: st) σ := yX_at (.iand, 1, 0, 0, 0, 0, []) rfl
theorem g136_131 {x : Int32} : Y136 d Q 131 lv (.int x :: st) σ ↔ Y136 d Q 132 (zs1 2 (.int x) lv) st σ := yX_at (.istore_n 2, 1, 0, 0, 0, 0, []) rfl
theorem g136_132  : Y136 d Q 132 lv st σ ↔ zldI lv 4 (fun x => Y136 d Q 135 (zs1 4 (.int (x + 1)) lv) st σ) := yX_at (.iinc 4 1, 3, 0, 0, 0, 0, []) rfl
theorem g136_135  : Y136 d Q 135 lv st σ ↔ Y136 d Q 38 lv st σ := yX_at (.goto (-97), 3, 38, 0, 0, 0, []) rfl
theorem g136_138  : Y136 d Q 138 lv st σ ↔ zldI lv 3 (fun x => Y136 d Q 139 lv (.int x :: st) σ) := yX_at (.iload_n 3, 1, 0, 0, 0, 0, []) rfl
theorem g136_139 {x : Int32} : Y136 d Q 139 lv [.int x] σ ↔ Q (some (.int x)) σ := yX_at (.ireturn, 1, 0, 0, 0, 0, []) rfl
end G136
