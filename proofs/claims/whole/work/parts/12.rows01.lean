def Y22 (d : Nat) (Q : Option Value → zSt → Prop) (pc : Nat) (lv : zLv) (st : List Value) (σ : zSt) : Prop := yX (yE d) ySn zt22 Q pc lv st σ
theorem C22 {d : Nat} {as : List Value} {σ : zSt} {P : Option Value → zSt → Prop} (hl : (lg_sl as).length ≤ 3) (h : Y22 d P 0 (lv_args 0 as) [] σ) : yC (d + 1) 22 as σ P := yC_of (by decide) hl h
section G22
variable {d : Nat} {Q : Option Value → zSt → Prop} {lv : zLv} {st : List Value} {σ : zSt}
theorem g22_0  : Y22 d Q 0 lv st σ ↔ Y22 d Q 1 lv (.int 0 :: st) σ := yX_at (.iconst 0, 1, 0, 0, 0, 0, []) rfl
theorem g22_1 {x : Int32} : Y22 d Q 1 lv (.int x :: st) σ ↔ Y22 d Q 2 (zs1 1 (.int x) lv) st σ := yX_at (.istore_n 1, 1, 0, 0, 0, 0, []) rfl
theorem g22_2  : Y22 d Q 2 lv st σ ↔ Y22 d Q 3 lv (.int 0 :: st) σ := yX_at (.iconst 0, 1, 0, 0, 0, 0, []) rfl
theorem g22_3 {x : Int32} : Y22 d Q 3 lv (.int x :: st) σ ↔ Y22 d Q 4 (zs1 2 (.int x) lv) st σ := yX_at (.istore_n 2, 1, 0, 0, 0, 0, []) rfl
theorem g22_4  : Y22 d Q 4 lv st σ ↔ zldI lv 2 (fun x => Y22 d Q 5 lv (.int x :: st) σ) := yX_at (.iload_n 2, 1, 0, 0, 0, 0, []) rfl
theorem g22_5  : Y22 d Q 5 lv st σ ↔ Y22 d Q 6 lv (.int 4 :: st) σ := yX_at (.iconst 4, 1, 0, 0, 0, 0, []) rfl
theorem g22_6 {x y : Int32} : Y22 d Q 6 lv (.int y :: .int x :: st) σ ↔ (y ≤ x → Y22 d Q 24 lv st σ) ∧ (¬ y ≤ x → Y22 d Q 9 lv st σ) := yX_at (.if_icmp .ge 18, 3, 24, 0, 0, 0, []) rfl
theorem g22_9  : Y22 d Q 9 lv st σ ↔ zldI lv 1 (fun x => Y22 d Q 10 lv (.int x :: st) σ) := yX_at (.iload_n 1, 1, 0, 0, 0, 0, []) rfl
theorem g22_10  : Y22 d Q 10 lv st σ ↔ zldR lv 0 (fun x => Y22 d Q 11 lv (.ref x :: st) σ) := yX_at (.aload_n 0, 1, 0, 0, 0, 0, []) rfl
theorem g22_11 {c : Nat} : Y22 d Q 11 lv (.ref c :: st) σ ↔ zK c = 2 ∧ Y22 d Q 14 lv (zfv σ c 6 :: st) σ := yX_at (.getfield 21, 3, 2, 6, 42, 0, []) rfl
theorem g22_14  : Y22 d Q 14 lv st σ ↔ zldI lv 2 (fun x => Y22 d Q 15 lv (.int x :: st) σ) := yX_at (.iload_n 2, 1, 0, 0, 0, 0, []) rfl
theorem g22_15 {j : Int32} {c : Nat} : Y22 d Q 15 lv (.int j :: .ref c :: st) σ ↔ (zK c = 100 ∧ vp_in j (zLn c)) ∧ Y22 d Q 16 lv (.int (σ.1 c j.toNatClampNeg) :: st) σ := yX_at (.iaload, 1, 0, 0, 0, 0, []) rfl
theorem g22_16 {x y : Int32} : Y22 d Q 16 lv (.int y :: .int x :: st) σ ↔ Y22 d Q 17 lv (.int (x + y) :: st) σ := yX_at (.iadd, 1, 0, 0, 0, 0, []) rfl
theorem g22_17 {x : Int32} : Y22 d Q 17 lv (.int x :: st) σ ↔ Y22 d Q 18 (zs1 1 (.int x) lv) st σ := yX_at (.istore_n 1, 1, 0, 0, 0, 0, []) rfl
theorem g22_18  : Y22 d Q 18 lv st σ ↔ zldI lv 2 (fun x => Y22 d Q 21 (zs1 2 (.int (x + 1)) lv) st σ) := yX_at (.iinc 2 1, 3, 0, 0, 0, 0, []) rfl
theorem g22_21  : Y22 d Q 21 lv st σ ↔ Y22 d Q 4 lv st σ := yX_at (.goto (-17), 3, 4, 0, 0, 0, []) rfl
theorem g22_24  : Y22 d Q 24 lv st σ ↔ zldI lv 1 (fun x => Y22 d Q 25 lv (.int x :: st) σ) := yX_at (.iload_n 1, 1, 0, 0, 0, 0, []) rfl
theorem g22_25 {x : Int32} : Y22 d Q 25 lv [.int x] σ ↔ Q (some (.int x)) σ := yX_at (.ireturn, 1, 0, 0, 0, 0, []) rfl
end G22
def Y23 (d : Nat) (Q : Option Value → zSt → Prop) (pc : Nat) (lv : zLv) (st : List Value) (σ : zSt) : Prop := yX (yE d) ySn zt23 Q pc lv st σ
theorem C23 {d : Nat} {as : List Value} {σ : zSt} {P : Option Value → zSt → Prop} (hl : (lg_sl as).length ≤ 4) (h : Y23 d P 0 (lv_args 0 as) [] σ) : yC (d + 1) 23 as σ P := yC_of (by decide) hl h
section G23
variable {d : Nat} {Q : Option Value → zSt → Prop} {lv : zLv} {st : List Value} {σ : zSt}
theorem g23_0  : Y23 d Q 0 lv st σ ↔ Y23 d Q 1 lv (.int 0 :: st) σ := yX_at (.iconst 0, 1, 0, 0, 0, 0, []) rfl
theorem g23_1 {x : Int32} : Y23 d Q 1 lv (.int x :: st) σ ↔ Y23 d Q 2 (zs1 2 (.int x) lv) st σ := yX_at (.istore_n 2, 1, 0, 0, 0, 0, []) rfl
theorem g23_2  : Y23 d Q 2 lv st σ ↔ Y23 d Q 3 lv (.int 0 :: st) σ := yX_at (.iconst 0, 1, 0, 0, 0, 0, []) rfl
theorem g23_3 {x : Int32} : Y23 d Q 3 lv (.int x :: st) σ ↔ Y23 d Q 4 (zs1 3 (.int x) lv) st σ := yX_at (.istore_n 3, 1, 0, 0, 0, 0, []) rfl
theorem g23_4  : Y23 d Q 4 lv st σ ↔ zldI lv 3 (fun x => Y23 d Q 5 lv (.int x :: st) σ) := yX_at (.iload_n 3, 1, 0, 0, 0, 0, []) rfl
theorem g23_5  : Y23 d Q 5 lv st σ ↔ zldR lv 0 (fun x => Y23 d Q 6 lv (.ref x :: st) σ) := yX_at (.aload_n 0, 1, 0, 0, 0, 0, []) rfl
theorem g23_6 {c : Nat} : Y23 d Q 6 lv (.ref c :: st) σ ↔ zK c = 2 ∧ Y23 d Q 9 lv (zfv σ c 6 :: st) σ := yX_at (.getfield 21, 3, 2, 6, 42, 0, []) rfl
theorem g23_9  : Y23 d Q 9 lv st σ ↔ zldI lv 1 (fun x => Y23 d Q 10 lv (.int x :: st) σ) := yX_at (.iload_n 1, 1, 0, 0, 0, 0, []) rfl
theorem g23_10 {j : Int32} {c : Nat} : Y23 d Q 10 lv (.int j :: .ref c :: st) σ ↔ (zK c = 100 ∧ vp_in j (zLn c)) ∧ Y23 d Q 11 lv (.int (σ.1 c j.toNatClampNeg) :: st) σ := yX_at (.iaload, 1, 0, 0, 0, 0, []) rfl
theorem g23_11 {x y : Int32} : Y23 d Q 11 lv (.int y :: .int x :: st) σ ↔ (y ≤ x → Y23 d Q 34 lv st σ) ∧ (¬ y ≤ x → Y23 d Q 14 lv st σ) := yX_at (.if_icmp .ge 23, 3, 34, 0, 0, 0, []) rfl
theorem g23_14  : Y23 d Q 14 lv st σ ↔ zldI lv 2 (fun x => Y23 d Q 15 lv (.int x :: st) σ) := yX_at (.iload_n 2, 1, 0, 0, 0, 0, []) rfl
theorem g23_15  : Y23 d Q 15 lv st σ ↔ zldR lv 0 (fun x => Y23 d Q 16 lv (.ref x :: st) σ) := yX_at (.aload_n 0, 1, 0, 0, 0, 0, []) rfl
theorem g23_16 {c : Nat} : Y23 d Q 16 lv (.ref c :: st) σ ↔ zK c = 2 ∧ Y23 d Q 19 lv (zfv σ c 4 :: st) σ := yX_at (.getfield 15, 3, 2, 4, 40, 0, []) rfl
theorem g23_19  : Y23 d Q 19 lv st σ ↔ zldR lv 0 (fun x => Y23 d Q 20 lv (.ref x :: st) σ) := yX_at (.aload_n 0, 1, 0, 0, 0, 0, []) rfl
theorem g23_20  : Y23 d Q 20 lv st σ ↔ zldI lv 1 (fun x => Y23 d Q 21 lv (.int x :: st) σ) := yX_at (.iload_n 1, 1, 0, 0, 0, 0, []) rfl
theorem g23_21  : Y23 d Q 21 lv st σ ↔ zldI lv 3 (fun x => Y23 d Q 22 lv (.int x :: st) σ) := yX_at (.iload_n 3, 1, 0, 0, 0, 0, []) rfl
theorem g23_22 {v0 v1 : Value} {c : Nat} : Y23 d Q 22 lv (v1 :: v0 :: .ref c :: st) σ ↔ (zrcv 2 c ∧ zrm st) ∧ ∃ rv σ', yE d 21 [.ref c, v0, v1] σ rv σ' ∧ Y23 d Q 25 lv (rv.toList ++ st) σ' := yX_at (.invokevirtual 55, 3, 21, 2, 46, 0, []) rfl
theorem g23_25 {j : Int32} {c : Nat} : Y23 d Q 25 lv (.int j :: .ref c :: st) σ ↔ (zK c = 100 ∧ vp_in j (zLn c)) ∧ Y23 d Q 26 lv (.int (σ.1 c j.toNatClampNeg) :: st) σ := yX_at (.iaload, 1, 0, 0, 0, 0, []) rfl
theorem g23_26 {x y : Int32} : Y23 d Q 26 lv (.int y :: .int x :: st) σ ↔ Y23 d Q 27 lv (.int (x + y) :: st) σ := yX_at (.iadd, 1, 0, 0, 0, 0, []) rfl
theorem g23_27 {x : Int32} : Y23 d Q 27 lv (.int x :: st) σ ↔ Y23 d Q 28 (zs1 2 (.int x) lv) st σ := yX_at (.istore_n 2, 1, 0, 0, 0, 0, []) rfl
theorem g23_28  : Y23 d Q 28 lv st σ ↔ zldI lv 3 (fun x => Y23 d Q 31 (zs1 3 (.int (x + 1)) lv) st σ) := yX_at (.iinc 3 1, 3, 0, 0, 0, 0, []) rfl
theorem g23_31  : Y23 d Q 31 lv st σ ↔ Y23 d Q 4 lv st σ := yX_at (.goto (-27), 3, 4, 0, 0, 0, []) rfl
theorem g23_34  : Y23 d Q 34 lv st σ ↔ zldI lv 2 (fun x => Y23 d Q 35 lv (.int x :: st) σ) := yX_at (.iload_n 2, 1, 0, 0, 0, 0, []) rfl
theorem g23_35 {x : Int32} : Y23 d Q 35 lv [.int x] σ ↔ Q (some (.int x)) σ := yX_at (.ireturn, 1, 0, 0, 0, 0, []) rfl
end G23
def Y24 (d : Nat) (Q : Option Value → zSt → Prop) (pc : Nat) (lv : zLv) (st : List Value) (σ : zSt) : Prop := yX (yE d) ySn zt24 Q pc lv st σ
theorem C24 {d : Nat} {as : List Value} {σ : zSt} {P : Option Value → zSt → Prop} (hl : (lg_sl as).length ≤ 7) (h : Y24 d P 0 (lv_args 0 as) [] σ) : yC (d + 1) 24 as σ P := yC_of (by decide) hl h
section G24
variable {d : Nat} {Q : Option Value → zSt → Prop} {lv : zLv} {st : List Value} {σ : zSt}
theorem g24_0  : Y24 d Q 0 lv st σ ↔ zldI lv 2 (fun x => Y24 d Q 1 lv (.int x :: st) σ) := yX_at (.iload_n 2, 1, 0, 0, 0, 0, []) rfl
theorem g24_1  : Y24 d Q 1 lv st σ ↔ Y24 d Q 2 lv (.int 5 :: st) σ := yX_at (.iconst 5, 1, 0, 0, 0, 0, []) rfl
theorem g24_2 {x y : Int32} : Y24 d Q 2 lv (.int y :: .int x :: st) σ ↔ Y24 d Q 3 lv (.int (x * y) :: st) σ := yX_at (.imul, 1, 0, 0, 0, 0, []) rfl
theorem g24_3 {x : Int32} : Y24 d Q 3 lv (.int x :: st) σ ↔ Y24 d Q 5 (zs1 5 (.int x) lv) st σ := yX_at (.istore 5, 2, 0, 0, 0, 0, []) rfl
theorem g24_5  : Y24 d Q 5 lv st σ ↔ zldR lv 0 (fun x => Y24 d Q 6 lv (.ref x :: st) σ) := yX_at (.aload_n 0, 1, 0, 0, 0, 0, []) rfl
theorem g24_6 {c : Nat} : Y24 d Q 6 lv (.ref c :: st) σ ↔ zK c = 2 ∧ Y24 d Q 9 lv (zfv σ c 6 :: st) σ := yX_at (.getfield 21, 3, 2, 6, 42, 0, []) rfl
theorem g24_9  : Y24 d Q 9 lv st σ ↔ zldI lv 2 (fun x => Y24 d Q 10 lv (.int x :: st) σ) := yX_at (.iload_n 2, 1, 0, 0, 0, 0, []) rfl
theorem g24_10 {j : Int32} {c : Nat} : Y24 d Q 10 lv (.int j :: .ref c :: st) σ ↔ (zK c = 100 ∧ vp_in j (zLn c)) ∧ Y24 d Q 11 lv (.int (σ.1 c j.toNatClampNeg) :: st) σ := yX_at (.iaload, 1, 0, 0, 0, 0, []) rfl
theorem g24_11 {x : Int32} : Y24 d Q 11 lv (.int x :: st) σ ↔ Y24 d Q 13 (zs1 6 (.int x) lv) st σ := yX_at (.istore 6, 2, 0, 0, 0, 0, []) rfl
theorem g24_13  : Y24 d Q 13 lv st σ ↔ zldI lv 6 (fun x => Y24 d Q 15 lv (.int x :: st) σ) := yX_at (.iload 6, 2, 0, 0, 0, 0, []) rfl
theorem g24_15  : Y24 d Q 15 lv st σ ↔ zldI lv 3 (fun x => Y24 d Q 16 lv (.int x :: st) σ) := yX_at (.iload_n 3, 1, 0, 0, 0, 0, []) rfl
theorem g24_16 {x y : Int32} : Y24 d Q 16 lv (.int y :: .int x :: st) σ ↔ (x ≤ y → Y24 d Q 47 lv st σ) ∧ (¬ x ≤ y → Y24 d Q 19 lv st σ) := yX_at (.if_icmp .le 31, 3, 47, 0, 0, 0, []) rfl
theorem g24_19  : Y24 d Q 19 lv st σ ↔ zldR lv 0 (fun x => Y24 d Q 20 lv (.ref x :: st) σ) := yX_at (.aload_n 0, 1, 0, 0, 0, 0, []) rfl
theorem g24_20 {c : Nat} : Y24 d Q 20 lv (.ref c :: st) σ ↔ zK c = 2 ∧ Y24 d Q 23 lv (zfv σ c 7 :: st) σ := yX_at (.getfield 24, 3, 2, 7, 44, 0, []) rfl
theorem g24_23  : Y24 d Q 23 lv st σ ↔ zldI lv 5 (fun x => Y24 d Q 25 lv (.int x :: st) σ) := yX_at (.iload 5, 2, 0, 0, 0, 0, []) rfl
theorem g24_25  : Y24 d Q 25 lv st σ ↔ zldI lv 6 (fun x => Y24 d Q 27 lv (.int x :: st) σ) := yX_at (.iload 6, 2, 0, 0, 0, 0, []) rfl
theorem g24_27 {x y : Int32} : Y24 d Q 27 lv (.int y :: .int x :: st) σ ↔ Y24 d Q 28 lv (.int (x + y) :: st) σ := yX_at (.iadd, 1, 0, 0, 0, 0, []) rfl
theorem g24_28  : Y24 d Q 28 lv st σ ↔ zldR lv 0 (fun x => Y24 d Q 29 lv (.ref x :: st) σ) := yX_at (.aload_n 0, 1, 0, 0, 0, 0, []) rfl
theorem g24_29 {c : Nat} : Y24 d Q 29 lv (.ref c :: st) σ ↔ zK c = 2 ∧ Y24 d Q 32 lv (zfv σ c 7 :: st) σ := yX_at (.getfield 24, 3, 2, 7, 44, 0, []) rfl
theorem g24_32  : Y24 d Q 32 lv st σ ↔ zldI lv 5 (fun x => Y24 d Q 34 lv (.int x :: st) σ) := yX_at (.iload 5, 2, 0, 0, 0, 0, []) rfl
theorem g24_34  : Y24 d Q 34 lv st σ ↔ zldI lv 6 (fun x => Y24 d Q 36 lv (.int x :: st) σ) := yX_at (.iload 6, 2, 0, 0, 0, 0, []) rfl
theorem g24_36 {x y : Int32} : Y24 d Q 36 lv (.int y :: .int x :: st) σ ↔ Y24 d Q 37 lv (.int (x + y) :: st) σ := yX_at (.iadd, 1, 0, 0, 0, 0, []) rfl
theorem g24_37  : Y24 d Q 37 lv st σ ↔ Y24 d Q 38 lv (.int 1 :: st) σ := yX_at (.iconst 1, 1, 0, 0, 0, 0, []) rfl
theorem g24_38 {x y : Int32} : Y24 d Q 38 lv (.int y :: .int x :: st) σ ↔ Y24 d Q 39 lv (.int (x - y) :: st) σ := yX_at (.isub, 1, 0, 0, 0, 0, []) rfl
theorem g24_39 {j : Int32} {c : Nat} : Y24 d Q 39 lv (.int j :: .ref c :: st) σ ↔ (zK c = 100 ∧ vp_in j (zLn c)) ∧ Y24 d Q 40 lv (.int (σ.1 c j.toNatClampNeg) :: st) σ := yX_at (.iaload, 1, 0, 0, 0, 0, []) rfl
theorem g24_40 {x j : Int32} {c : Nat} : Y24 d Q 40 lv (.int x :: .int j :: .ref c :: st) σ ↔ (zK c = 100 ∧ vp_in j (zLn c)) ∧ Y24 d Q 41 lv st (zwI σ c j.toNatClampNeg x) := yX_at (.iastore, 1, 0, 0, 0, 0, []) rfl
theorem g24_41  : Y24 d Q 41 lv st σ ↔ zldI lv 6 (fun x => Y24 d Q 44 (zs1 6 (.int (x + (-1))) lv) st σ) := by
  rw [show (-1 : Int32) = Int32.ofInt (-1) from by decide]
  exact yX_at (.iinc 6 (-1), 3, 0, 0, 0, 0, []) rfl
theorem g24_44  : Y24 d Q 44 lv st σ ↔ Y24 d Q 13 lv st σ := yX_at (.goto (-31), 3, 13, 0, 0, 0, []) rfl
theorem g24_47  : Y24 d Q 47 lv st σ ↔ zldR lv 0 (fun x => Y24 d Q 48 lv (.ref x :: st) σ) := yX_at (.aload_n 0, 1, 0, 0, 0, 0, []) rfl
theorem g24_48 {c : Nat} : Y24 d Q 48 lv (.ref c :: st) σ ↔ zK c = 2 ∧ Y24 d Q 51 lv (zfv σ c 7 :: st) σ := yX_at (.getfield 24, 3, 2, 7, 44, 0, []) rfl
theorem g24_51  : Y24 d Q 51 lv st σ ↔ zldI lv 5 (fun x => Y24 d Q 53 lv (.int x :: st) σ) := yX_at (.iload 5, 2, 0, 0, 0, 0, []) rfl
theorem g24_53  : Y24 d Q 53 lv st σ ↔ zldI lv 3 (fun x => Y24 d Q 54 lv (.int x :: st) σ) := yX_at (.iload_n 3, 1, 0, 0, 0, 0, []) rfl
theorem g24_54 {x y : Int32} : Y24 d Q 54 lv (.int y :: .int x :: st) σ ↔ Y24 d Q 55 lv (.int (x + y) :: st) σ := yX_at (.iadd, 1, 0, 0, 0, 0, []) rfl
theorem g24_55  : Y24 d Q 55 lv st σ ↔ zldI lv 1 (fun x => Y24 d Q 56 lv (.int x :: st) σ) := yX_at (.iload_n 1, 1, 0, 0, 0, 0, []) rfl
theorem g24_56 {x j : Int32} {c : Nat} : Y24 d Q 56 lv (.int x :: .int j :: .ref c :: st) σ ↔ (zK c = 100 ∧ vp_in j (zLn c)) ∧ Y24 d Q 57 lv st (zwI σ c j.toNatClampNeg x) := yX_at (.iastore, 1, 0, 0, 0, 0, []) rfl
theorem g24_57  : Y24 d Q 57 lv st σ ↔ zldR lv 0 (fun x => Y24 d Q 58 lv (.ref x :: st) σ) := yX_at (.aload_n 0, 1, 0, 0, 0, 0, []) rfl
theorem g24_58 {c : Nat} : Y24 d Q 58 lv (.ref c :: st) σ ↔ zK c = 2 ∧ Y24 d Q 61 lv (zfv σ c 6 :: st) σ := yX_at (.getfield 21, 3, 2, 6, 42, 0, []) rfl
theorem g24_61  : Y24 d Q 61 lv st σ ↔ zldI lv 2 (fun x => Y24 d Q 62 lv (.int x :: st) σ) := yX_at (.iload_n 2, 1, 0, 0, 0, 0, []) rfl
theorem g24_62  : Y24 d Q 62 lv st σ ↔ zdup2 st (fun r => Y24 d Q 63 lv r σ) := yX_at (.dup2, 1, 0, 0, 0, 0, []) rfl
theorem g24_63 {j : Int32} {c : Nat} : Y24 d Q 63 lv (.int j :: .ref c :: st) σ ↔ (zK c = 100 ∧ vp_in j (zLn c)) ∧ Y24 d Q 64 lv (.int (σ.1 c j.toNatClampNeg) :: st) σ := yX_at (.iaload, 1, 0, 0, 0, 0, []) rfl
theorem g24_64  : Y24 d Q 64 lv st σ ↔ Y24 d Q 65 lv (.int 1 :: st) σ := yX_at (.iconst 1, 1, 0, 0, 0, 0, []) rfl
theorem g24_65 {x y : Int32} : Y24 d Q 65 lv (.int y :: .int x :: st) σ ↔ Y24 d Q 66 lv (.int (x + y) :: st) σ := yX_at (.iadd, 1, 0, 0, 0, 0, []) rfl
theorem g24_66 {x j : Int32} {c : Nat} : Y24 d Q 66 lv (.int x :: .int j :: .ref c :: st) σ ↔ (zK c = 100 ∧ vp_in j (zLn c)) ∧ Y24 d Q 67 lv st (zwI σ c j.toNatClampNeg x) := yX_at (.iastore, 1, 0, 0, 0, 0, []) rfl
theorem g24_67  : Y24 d Q 67 lv st σ ↔ zldR lv 0 (fun x => Y24 d Q 68 lv (.ref x :: st) σ) := yX_at (.aload_n 0, 1, 0, 0, 0, 0, []) rfl
theorem g24_68 {c : Nat} : Y24 d Q 68 lv (.ref c :: st) σ ↔ zK c = 2 ∧ Y24 d Q 71 lv (zfv σ c 3 :: st) σ := yX_at (.getfield 9, 3, 2, 3, 38, 0, []) rfl
theorem g24_71  : Y24 d Q 71 lv st σ ↔ zldI lv 1 (fun x => Y24 d Q 72 lv (.int x :: st) σ) := yX_at (.iload_n 1, 1, 0, 0, 0, 0, []) rfl
theorem g24_72  : Y24 d Q 72 lv st σ ↔ Y24 d Q 73 lv (.int 1 :: st) σ := yX_at (.iconst 1, 1, 0, 0, 0, 0, []) rfl
theorem g24_73 {x j : Int32} {c : Nat} : Y24 d Q 73 lv (.int x :: .int j :: .ref c :: st) σ ↔ (zK c = 100 ∧ vp_in j (zLn c)) ∧ Y24 d Q 74 lv st (zwI σ c j.toNatClampNeg x) := yX_at (.iastore, 1, 0, 0, 0, 0, []) rfl
theorem g24_74  : Y24 d Q 74 lv st σ ↔ zldR lv 0 (fun x => Y24 d Q 75 lv (.ref x :: st) σ) := yX_at (.aload_n 0, 1, 0, 0, 0, 0, []) rfl
theorem g24_75 {c : Nat} : Y24 d Q 75 lv (.ref c :: st) σ ↔ zK c = 2 ∧ Y24 d Q 78 lv (zfv σ c 5 :: st) σ := yX_at (.getfield 18, 3, 2, 5, 41, 0, []) rfl
theorem g24_78  : Y24 d Q 78 lv st σ ↔ zldI lv 1 (fun x => Y24 d Q 79 lv (.int x :: st) σ) := yX_at (.iload_n 1, 1, 0, 0, 0, 0, []) rfl
theorem g24_79  : Y24 d Q 79 lv st σ ↔ zldI lv 2 (fun x => Y24 d Q 80 lv (.int x :: st) σ) := yX_at (.iload_n 2, 1, 0, 0, 0, 0, []) rfl
theorem g24_80 {x j : Int32} {c : Nat} : Y24 d Q 80 lv (.int x :: .int j :: .ref c :: st) σ ↔ (zK c = 100 ∧ vp_in j (zLn c)) ∧ Y24 d Q 81 lv st (zwI σ c j.toNatClampNeg x) := yX_at (.iastore, 1, 0, 0, 0, 0, []) rfl
theorem g24_81  : Y24 d Q 81 lv st σ ↔ zldR lv 0 (fun x => Y24 d Q 82 lv (.ref x :: st) σ) := yX_at (.aload_n 0, 1, 0, 0, 0, 0, []) rfl
theorem g24_82 {c : Nat} : Y24 d Q 82 lv (.ref c :: st) σ ↔ zK c = 2 ∧ Y24 d Q 85 lv (zfv σ c 4 :: st) σ := yX_at (.getfield 15, 3, 2, 4, 40, 0, []) rfl
theorem g24_85  : Y24 d Q 85 lv st σ ↔ zldI lv 1 (fun x => Y24 d Q 86 lv (.int x :: st) σ) := yX_at (.iload_n 1, 1, 0, 0, 0, 0, []) rfl
theorem g24_86  : Y24 d Q 86 lv st σ ↔ zldI lv 4 (fun x => Y24 d Q 88 lv (.int x :: st) σ) := yX_at (.iload 4, 2, 0, 0, 0, 0, []) rfl
theorem g24_88 {x j : Int32} {c : Nat} : Y24 d Q 88 lv (.int x :: .int j :: .ref c :: st) σ ↔ (zK c = 100 ∧ vp_in j (zLn c)) ∧ Y24 d Q 89 lv st (zwI σ c j.toNatClampNeg x) := yX_at (.iastore, 1, 0, 0, 0, 0, []) rfl
theorem g24_89  : Y24 d Q 89 lv [] σ ↔ Q none σ := yX_at (.return_, 1, 0, 0, 0, 0, []) rfl
end G24
def Y25 (d : Nat) (Q : Option Value → zSt → Prop) (pc : Nat) (lv : zLv) (st : List Value) (σ : zSt) : Prop := yX (yE d) ySn zt25 Q pc lv st σ
theorem C25 {d : Nat} {as : List Value} {σ : zSt} {P : Option Value → zSt → Prop} (hl : (lg_sl as).length ≤ 6) (h : Y25 d P 0 (lv_args 0 as) [] σ) : yC (d + 1) 25 as σ P := yC_of (by decide) hl h
section G25
variable {d : Nat} {Q : Option Value → zSt → Prop} {lv : zLv} {st : List Value} {σ : zSt}
theorem g25_0  : Y25 d Q 0 lv st σ ↔ zldR lv 0 (fun x => Y25 d Q 1 lv (.ref x :: st) σ) := yX_at (.aload_n 0, 1, 0, 0, 0, 0, []) rfl
theorem g25_1 {c : Nat} : Y25 d Q 1 lv (.ref c :: st) σ ↔ zK c = 2 ∧ Y25 d Q 4 lv (zfv σ c 5 :: st) σ := yX_at (.getfield 18, 3, 2, 5, 41, 0, []) rfl
theorem g25_4  : Y25 d Q 4 lv st σ ↔ zldI lv 1 (fun x => Y25 d Q 5 lv (.int x :: st) σ) := yX_at (.iload_n 1, 1, 0, 0, 0, 0, []) rfl
theorem g25_5 {j : Int32} {c : Nat} : Y25 d Q 5 lv (.int j :: .ref c :: st) σ ↔ (zK c = 100 ∧ vp_in j (zLn c)) ∧ Y25 d Q 6 lv (.int (σ.1 c j.toNatClampNeg) :: st) σ := yX_at (.iaload, 1, 0, 0, 0, 0, []) rfl
theorem g25_6 {x : Int32} : Y25 d Q 6 lv (.int x :: st) σ ↔ Y25 d Q 7 (zs1 3 (.int x) lv) st σ := yX_at (.istore_n 3, 1, 0, 0, 0, 0, []) rfl
theorem g25_7  : Y25 d Q 7 lv st σ ↔ zldI lv 3 (fun x => Y25 d Q 8 lv (.int x :: st) σ) := yX_at (.iload_n 3, 1, 0, 0, 0, 0, []) rfl
theorem g25_8  : Y25 d Q 8 lv st σ ↔ Y25 d Q 9 lv (.int 5 :: st) σ := yX_at (.iconst 5, 1, 0, 0, 0, 0, []) rfl
theorem g25_9 {x y : Int32} : Y25 d Q 9 lv (.int y :: .int x :: st) σ ↔ Y25 d Q 10 lv (.int (x * y) :: st) σ := yX_at (.imul, 1, 0, 0, 0, 0, []) rfl
theorem g25_10 {x : Int32} : Y25 d Q 10 lv (.int x :: st) σ ↔ Y25 d Q 12 (zs1 4 (.int x) lv) st σ := yX_at (.istore 4, 2, 0, 0, 0, 0, []) rfl
theorem g25_12  : Y25 d Q 12 lv st σ ↔ zldR lv 0 (fun x => Y25 d Q 13 lv (.ref x :: st) σ) := yX_at (.aload_n 0, 1, 0, 0, 0, 0, []) rfl
theorem g25_13 {c : Nat} : Y25 d Q 13 lv (.ref c :: st) σ ↔ zK c = 2 ∧ Y25 d Q 16 lv (zfv σ c 6 :: st) σ := yX_at (.getfield 21, 3, 2, 6, 42, 0, []) rfl
theorem g25_16  : Y25 d Q 16 lv st σ ↔ zldI lv 3 (fun x => Y25 d Q 17 lv (.int x :: st) σ) := yX_at (.iload_n 3, 1, 0, 0, 0, 0, []) rfl
theorem g25_17  : Y25 d Q 17 lv st σ ↔ zdup2 st (fun r => Y25 d Q 18 lv r σ) := yX_at (.dup2, 1, 0, 0, 0, 0, []) rfl
theorem g25_18 {j : Int32} {c : Nat} : Y25 d Q 18 lv (.int j :: .ref c :: st) σ ↔ (zK c = 100 ∧ vp_in j (zLn c)) ∧ Y25 d Q 19 lv (.int (σ.1 c j.toNatClampNeg) :: st) σ := yX_at (.iaload, 1, 0, 0, 0, 0, []) rfl
theorem g25_19  : Y25 d Q 19 lv st σ ↔ Y25 d Q 20 lv (.int 1 :: st) σ := yX_at (.iconst 1, 1, 0, 0, 0, 0, []) rfl
theorem g25_20 {x y : Int32} : Y25 d Q 20 lv (.int y :: .int x :: st) σ ↔ Y25 d Q 21 lv (.int (x - y) :: st) σ := yX_at (.isub, 1, 0, 0, 0, 0, []) rfl
theorem g25_21 {x j : Int32} {c : Nat} : Y25 d Q 21 lv (.int x :: .int j :: .ref c :: st) σ ↔ (zK c = 100 ∧ vp_in j (zLn c)) ∧ Y25 d Q 22 lv st (zwI σ c j.toNatClampNeg x) := yX_at (.iastore, 1, 0, 0, 0, 0, []) rfl
theorem g25_22  : Y25 d Q 22 lv st σ ↔ zldR lv 0 (fun x => Y25 d Q 23 lv (.ref x :: st) σ) := yX_at (.aload_n 0, 1, 0, 0, 0, 0, []) rfl
theorem g25_23  : Y25 d Q 23 lv st σ ↔ zldI lv 1 (fun x => Y25 d Q 24 lv (.int x :: st) σ) := yX_at (.iload_n 1, 1, 0, 0, 0, 0, []) rfl
theorem g25_24 {v0 : Value} {c : Nat} : Y25 d Q 24 lv (v0 :: .ref c :: st) σ ↔ (zrcv 2 c ∧ zrm st) ∧ ∃ rv σ', yE d 26 [.ref c, v0] σ rv σ' ∧ Y25 d Q 27 lv (rv.toList ++ st) σ' := yX_at (.invokevirtual 59, 3, 26, 1, 47, 0, []) rfl
theorem g25_27 {x : Int32} : Y25 d Q 27 lv (.int x :: st) σ ↔ Y25 d Q 29 (zs1 5 (.int x) lv) st σ := yX_at (.istore 5, 2, 0, 0, 0, 0, []) rfl
theorem g25_29  : Y25 d Q 29 lv st σ ↔ zldI lv 5 (fun x => Y25 d Q 31 lv (.int x :: st) σ) := yX_at (.iload 5, 2, 0, 0, 0, 0, []) rfl
theorem g25_31  : Y25 d Q 31 lv st σ ↔ zldR lv 0 (fun x => Y25 d Q 32 lv (.ref x :: st) σ) := yX_at (.aload_n 0, 1, 0, 0, 0, 0, []) rfl
theorem g25_32 {c : Nat} : Y25 d Q 32 lv (.ref c :: st) σ ↔ zK c = 2 ∧ Y25 d Q 35 lv (zfv σ c 6 :: st) σ := yX_at (.getfield 21, 3, 2, 6, 42, 0, []) rfl
theorem g25_35  : Y25 d Q 35 lv st σ ↔ zldI lv 3 (fun x => Y25 d Q 36 lv (.int x :: st) σ) := yX_at (.iload_n 3, 1, 0, 0, 0, 0, []) rfl
theorem g25_36 {j : Int32} {c : Nat} : Y25 d Q 36 lv (.int j :: .ref c :: st) σ ↔ (zK c = 100 ∧ vp_in j (zLn c)) ∧ Y25 d Q 37 lv (.int (σ.1 c j.toNatClampNeg) :: st) σ := yX_at (.iaload, 1, 0, 0, 0, 0, []) rfl
theorem g25_37 {x y : Int32} : Y25 d Q 37 lv (.int y :: .int x :: st) σ ↔ (y ≤ x → Y25 d Q 68 lv st σ) ∧ (¬ y ≤ x → Y25 d Q 40 lv st σ) := yX_at (.if_icmp .ge 31, 3, 68, 0, 0, 0, []) rfl
theorem g25_40  : Y25 d Q 40 lv st σ ↔ zldR lv 0 (fun x => Y25 d Q 41 lv (.ref x :: st) σ) := yX_at (.aload_n 0, 1, 0, 0, 0, 0, []) rfl
theorem g25_41 {c : Nat} : Y25 d Q 41 lv (.ref c :: st) σ ↔ zK c = 2 ∧ Y25 d Q 44 lv (zfv σ c 7 :: st) σ := yX_at (.getfield 24, 3, 2, 7, 44, 0, []) rfl
theorem g25_44  : Y25 d Q 44 lv st σ ↔ zldI lv 4 (fun x => Y25 d Q 46 lv (.int x :: st) σ) := yX_at (.iload 4, 2, 0, 0, 0, 0, []) rfl
theorem g25_46  : Y25 d Q 46 lv st σ ↔ zldI lv 5 (fun x => Y25 d Q 48 lv (.int x :: st) σ) := yX_at (.iload 5, 2, 0, 0, 0, 0, []) rfl
theorem g25_48 {x y : Int32} : Y25 d Q 48 lv (.int y :: .int x :: st) σ ↔ Y25 d Q 49 lv (.int (x + y) :: st) σ := yX_at (.iadd, 1, 0, 0, 0, 0, []) rfl
theorem g25_49  : Y25 d Q 49 lv st σ ↔ zldR lv 0 (fun x => Y25 d Q 50 lv (.ref x :: st) σ) := yX_at (.aload_n 0, 1, 0, 0, 0, 0, []) rfl
theorem g25_50 {c : Nat} : Y25 d Q 50 lv (.ref c :: st) σ ↔ zK c = 2 ∧ Y25 d Q 53 lv (zfv σ c 7 :: st) σ := yX_at (.getfield 24, 3, 2, 7, 44, 0, []) rfl
theorem g25_53  : Y25 d Q 53 lv st σ ↔ zldI lv 4 (fun x => Y25 d Q 55 lv (.int x :: st) σ) := yX_at (.iload 4, 2, 0, 0, 0, 0, []) rfl
theorem g25_55  : Y25 d Q 55 lv st σ ↔ zldI lv 5 (fun x => Y25 d Q 57 lv (.int x :: st) σ) := yX_at (.iload 5, 2, 0, 0, 0, 0, []) rfl
theorem g25_57 {x y : Int32} : Y25 d Q 57 lv (.int y :: .int x :: st) σ ↔ Y25 d Q 58 lv (.int (x + y) :: st) σ := yX_at (.iadd, 1, 0, 0, 0, 0, []) rfl
theorem g25_58  : Y25 d Q 58 lv st σ ↔ Y25 d Q 59 lv (.int 1 :: st) σ := yX_at (.iconst 1, 1, 0, 0, 0, 0, []) rfl
theorem g25_59 {x y : Int32} : Y25 d Q 59 lv (.int y :: .int x :: st) σ ↔ Y25 d Q 60 lv (.int (x + y) :: st) σ := yX_at (.iadd, 1, 0, 0, 0, 0, []) rfl
theorem g25_60 {j : Int32} {c : Nat} : Y25 d Q 60 lv (.int j :: .ref c :: st) σ ↔ (zK c = 100 ∧ vp_in j (zLn c)) ∧ Y25 d Q 61 lv (.int (σ.1 c j.toNatClampNeg) :: st) σ := yX_at (.iaload, 1, 0, 0, 0, 0, []) rfl
theorem g25_61 {x j : Int32} {c : Nat} : Y25 d Q 61 lv (.int x :: .int j :: .ref c :: st) σ ↔ (zK c = 100 ∧ vp_in j (zLn c)) ∧ Y25 d Q 62 lv st (zwI σ c j.toNatClampNeg x) := yX_at (.iastore, 1, 0, 0, 0, 0, []) rfl
theorem g25_62  : Y25 d Q 62 lv st σ ↔ zldI lv 5 (fun x => Y25 d Q 65 (zs1 5 (.int (x + 1)) lv) st σ) := yX_at (.iinc 5 1, 3, 0, 0, 0, 0, []) rfl
theorem g25_65  : Y25 d Q 65 lv st σ ↔ Y25 d Q 29 lv st σ := yX_at (.goto (-36), 3, 29, 0, 0, 0, []) rfl
theorem g25_68  : Y25 d Q 68 lv st σ ↔ zldR lv 0 (fun x => Y25 d Q 69 lv (.ref x :: st) σ) := yX_at (.aload_n 0, 1, 0, 0, 0, 0, []) rfl
theorem g25_69 {c : Nat} : Y25 d Q 69 lv (.ref c :: st) σ ↔ zK c = 2 ∧ Y25 d Q 72 lv (zfv σ c 3 :: st) σ := yX_at (.getfield 9, 3, 2, 3, 38, 0, []) rfl
theorem g25_72  : Y25 d Q 72 lv st σ ↔ zldI lv 1 (fun x => Y25 d Q 73 lv (.int x :: st) σ) := yX_at (.iload_n 1, 1, 0, 0, 0, 0, []) rfl
theorem g25_73  : Y25 d Q 73 lv st σ ↔ zldI lv 2 (fun x => Y25 d Q 74 lv (.int x :: st) σ) := yX_at (.iload_n 2, 1, 0, 0, 0, 0, []) rfl
theorem g25_74 {x j : Int32} {c : Nat} : Y25 d Q 74 lv (.int x :: .int j :: .ref c :: st) σ ↔ (zK c = 100 ∧ vp_in j (zLn c)) ∧ Y25 d Q 75 lv st (zwI σ c j.toNatClampNeg x) := yX_at (.iastore, 1, 0, 0, 0, 0, []) rfl
theorem g25_75  : Y25 d Q 75 lv st σ ↔ zldR lv 0 (fun x => Y25 d Q 76 lv (.ref x :: st) σ) := yX_at (.aload_n 0, 1, 0, 0, 0, 0, []) rfl
theorem g25_76 {c : Nat} : Y25 d Q 76 lv (.ref c :: st) σ ↔ zK c = 2 ∧ Y25 d Q 79 lv (zfv σ c 5 :: st) σ := yX_at (.getfield 18, 3, 2, 5, 41, 0, []) rfl
theorem g25_79  : Y25 d Q 79 lv st σ ↔ zldI lv 1 (fun x => Y25 d Q 80 lv (.int x :: st) σ) := yX_at (.iload_n 1, 1, 0, 0, 0, 0, []) rfl
theorem g25_80  : Y25 d Q 80 lv st σ ↔ Y25 d Q 81 lv (.int (-1) :: st) σ := by
  rw [show (-1 : Int32) = Int32.ofInt (-1) from by decide]
  exact yX_at (.iconst (-1), 1, 0, 0, 0, 0, []) rfl
theorem g25_81 {x j : Int32} {c : Nat} : Y25 d Q 81 lv (.int x :: .int j :: .ref c :: st) σ ↔ (zK c = 100 ∧ vp_in j (zLn c)) ∧ Y25 d Q 82 lv st (zwI σ c j.toNatClampNeg x) := yX_at (.iastore, 1, 0, 0, 0, 0, []) rfl
theorem g25_82  : Y25 d Q 82 lv st σ ↔ zldR lv 0 (fun x => Y25 d Q 83 lv (.ref x :: st) σ) := yX_at (.aload_n 0, 1, 0, 0, 0, 0, []) rfl
theorem g25_83 {c : Nat} : Y25 d Q 83 lv (.ref c :: st) σ ↔ zK c = 2 ∧ Y25 d Q 86 lv (zfv σ c 4 :: st) σ := yX_at (.getfield 15, 3, 2, 4, 40, 0, []) rfl
theorem g25_86  : Y25 d Q 86 lv st σ ↔ zldI lv 1 (fun x => Y25 d Q 87 lv (.int x :: st) σ) := yX_at (.iload_n 1, 1, 0, 0, 0, 0, []) rfl
theorem g25_87  : Y25 d Q 87 lv st σ ↔ Y25 d Q 88 lv (.int 0 :: st) σ := yX_at (.iconst 0, 1, 0, 0, 0, 0, []) rfl
theorem g25_88 {x j : Int32} {c : Nat} : Y25 d Q 88 lv (.int x :: .int j :: .ref c :: st) σ ↔ (zK c = 100 ∧ vp_in j (zLn c)) ∧ Y25 d Q 89 lv st (zwI σ c j.toNatClampNeg x) := yX_at (.iastore, 1, 0, 0, 0, 0, []) rfl
theorem g25_89  : Y25 d Q 89 lv [] σ ↔ Q none σ := yX_at (.return_, 1, 0, 0, 0, 0, []) rfl
end G25
def Y26 (d : Nat) (Q : Option Value → zSt → Prop) (pc : Nat) (lv : zLv) (st : List Value) (σ : zSt) : Prop := yX (yE d) ySn zt26 Q pc lv st σ
theorem C26 {d : Nat} {as : List Value} {σ : zSt} {P : Option Value → zSt → Prop} (hl : (lg_sl as).length ≤ 4) (h : Y26 d P 0 (lv_args 0 as) [] σ) : yC (d + 1) 26 as σ P := yC_of (by decide) hl h
section G26
variable {d : Nat} {Q : Option Value → zSt → Prop} {lv : zLv} {st : List Value} {σ : zSt}
theorem g26_0  : Y26 d Q 0 lv st σ ↔ zldR lv 0 (fun x => Y26 d Q 1 lv (.ref x :: st) σ) := yX_at (.aload_n 0, 1, 0, 0, 0, 0, []) rfl
theorem g26_1 {c : Nat} : Y26 d Q 1 lv (.ref c :: st) σ ↔ zK c = 2 ∧ Y26 d Q 4 lv (zfv σ c 5 :: st) σ := yX_at (.getfield 18, 3, 2, 5, 41, 0, []) rfl
theorem g26_4  : Y26 d Q 4 lv st σ ↔ zldI lv 1 (fun x => Y26 d Q 5 lv (.int x :: st) σ) := yX_at (.iload_n 1, 1, 0, 0, 0, 0, []) rfl
theorem g26_5 {j : Int32} {c : Nat} : Y26 d Q 5 lv (.int j :: .ref c :: st) σ ↔ (zK c = 100 ∧ vp_in j (zLn c)) ∧ Y26 d Q 6 lv (.int (σ.1 c j.toNatClampNeg) :: st) σ := yX_at (.iaload, 1, 0, 0, 0, 0, []) rfl
theorem g26_6  : Y26 d Q 6 lv st σ ↔ Y26 d Q 7 lv (.int 5 :: st) σ := yX_at (.iconst 5, 1, 0, 0, 0, 0, []) rfl
theorem g26_7 {x y : Int32} : Y26 d Q 7 lv (.int y :: .int x :: st) σ ↔ Y26 d Q 8 lv (.int (x * y) :: st) σ := yX_at (.imul, 1, 0, 0, 0, 0, []) rfl
theorem g26_8 {x : Int32} : Y26 d Q 8 lv (.int x :: st) σ ↔ Y26 d Q 9 (zs1 2 (.int x) lv) st σ := yX_at (.istore_n 2, 1, 0, 0, 0, 0, []) rfl
theorem g26_9  : Y26 d Q 9 lv st σ ↔ Y26 d Q 10 lv (.int 0 :: st) σ := yX_at (.iconst 0, 1, 0, 0, 0, 0, []) rfl
theorem g26_10 {x : Int32} : Y26 d Q 10 lv (.int x :: st) σ ↔ Y26 d Q 11 (zs1 3 (.int x) lv) st σ := yX_at (.istore_n 3, 1, 0, 0, 0, 0, []) rfl
theorem g26_11  : Y26 d Q 11 lv st σ ↔ zldI lv 3 (fun x => Y26 d Q 12 lv (.int x :: st) σ) := yX_at (.iload_n 3, 1, 0, 0, 0, 0, []) rfl
theorem g26_12  : Y26 d Q 12 lv st σ ↔ Y26 d Q 13 lv (.int 5 :: st) σ := yX_at (.iconst 5, 1, 0, 0, 0, 0, []) rfl
theorem g26_13 {x y : Int32} : Y26 d Q 13 lv (.int y :: .int x :: st) σ ↔ (y ≤ x → Y26 d Q 36 lv st σ) ∧ (¬ y ≤ x → Y26 d Q 16 lv st σ) := yX_at (.if_icmp .ge 23, 3, 36, 0, 0, 0, []) rfl
theorem g26_16  : Y26 d Q 16 lv st σ ↔ zldR lv 0 (fun x => Y26 d Q 17 lv (.ref x :: st) σ) := yX_at (.aload_n 0, 1, 0, 0, 0, 0, []) rfl
theorem g26_17 {c : Nat} : Y26 d Q 17 lv (.ref c :: st) σ ↔ zK c = 2 ∧ Y26 d Q 20 lv (zfv σ c 7 :: st) σ := yX_at (.getfield 24, 3, 2, 7, 44, 0, []) rfl
theorem g26_20  : Y26 d Q 20 lv st σ ↔ zldI lv 2 (fun x => Y26 d Q 21 lv (.int x :: st) σ) := yX_at (.iload_n 2, 1, 0, 0, 0, 0, []) rfl
theorem g26_21  : Y26 d Q 21 lv st σ ↔ zldI lv 3 (fun x => Y26 d Q 22 lv (.int x :: st) σ) := yX_at (.iload_n 3, 1, 0, 0, 0, 0, []) rfl
theorem g26_22 {x y : Int32} : Y26 d Q 22 lv (.int y :: .int x :: st) σ ↔ Y26 d Q 23 lv (.int (x + y) :: st) σ := yX_at (.iadd, 1, 0, 0, 0, 0, []) rfl
theorem g26_23 {j : Int32} {c : Nat} : Y26 d Q 23 lv (.int j :: .ref c :: st) σ ↔ (zK c = 100 ∧ vp_in j (zLn c)) ∧ Y26 d Q 24 lv (.int (σ.1 c j.toNatClampNeg) :: st) σ := yX_at (.iaload, 1, 0, 0, 0, 0, []) rfl
theorem g26_24  : Y26 d Q 24 lv st σ ↔ zldI lv 1 (fun x => Y26 d Q 25 lv (.int x :: st) σ) := yX_at (.iload_n 1, 1, 0, 0, 0, 0, []) rfl
theorem g26_25 {x y : Int32} : Y26 d Q 25 lv (.int y :: .int x :: st) σ ↔ (¬ x = y → Y26 d Q 30 lv st σ) ∧ (x = y → Y26 d Q 28 lv st σ) := yX_at (.if_icmp .ne 5, 3, 30, 0, 0, 0, []) rfl
theorem g26_28  : Y26 d Q 28 lv st σ ↔ zldI lv 3 (fun x => Y26 d Q 29 lv (.int x :: st) σ) := yX_at (.iload_n 3, 1, 0, 0, 0, 0, []) rfl
theorem g26_29 {x : Int32} : Y26 d Q 29 lv [.int x] σ ↔ Q (some (.int x)) σ := yX_at (.ireturn, 1, 0, 0, 0, 0, []) rfl
theorem g26_30  : Y26 d Q 30 lv st σ ↔ zldI lv 3 (fun x => Y26 d Q 33 (zs1 3 (.int (x + 1)) lv) st σ) := yX_at (.iinc 3 1, 3, 0, 0, 0, 0, []) rfl
theorem g26_33  : Y26 d Q 33 lv st σ ↔ Y26 d Q 11 lv st σ := yX_at (.goto (-22), 3, 11, 0, 0, 0, []) rfl
theorem g26_36  : Y26 d Q 36 lv st σ ↔ Y26 d Q 37 lv (.int 5 :: st) σ := yX_at (.iconst 5, 1, 0, 0, 0, 0, []) rfl
theorem g26_37 {x : Int32} : Y26 d Q 37 lv [.int x] σ ↔ Q (some (.int x)) σ := yX_at (.ireturn, 1, 0, 0, 0, 0, []) rfl
end G26
def Y27 (d : Nat) (Q : Option Value → zSt → Prop) (pc : Nat) (lv : zLv) (st : List Value) (σ : zSt) : Prop := yX (yE d) ySn zt27 Q pc lv st σ
theorem C27 {d : Nat} {as : List Value} {σ : zSt} {P : Option Value → zSt → Prop} (hl : (lg_sl as).length ≤ 3) (h : Y27 d P 0 (lv_args 0 as) [] σ) : yC (d + 1) 27 as σ P := yC_of (by decide) hl h
section G27
variable {d : Nat} {Q : Option Value → zSt → Prop} {lv : zLv} {st : List Value} {σ : zSt}
theorem g27_0  : Y27 d Q 0 lv st σ ↔ zldR lv 0 (fun x => Y27 d Q 1 lv (.ref x :: st) σ) := yX_at (.aload_n 0, 1, 0, 0, 0, 0, []) rfl
theorem g27_1 {c : Nat} : Y27 d Q 1 lv (.ref c :: st) σ ↔ zK c = 2 ∧ Y27 d Q 4 lv (zfv σ c 8 :: st) σ := yX_at (.getfield 46, 3, 2, 8, 37, 0, []) rfl
theorem g27_4  : Y27 d Q 4 lv st σ ↔ Y27 d Q 6 lv (.int 12 :: st) σ := yX_at (.bipush 12, 2, 0, 0, 0, 0, []) rfl
theorem g27_6 {x y : Int32} : Y27 d Q 6 lv (.int y :: .int x :: st) σ ↔ (¬ x = y → Y27 d Q 38 lv st σ) ∧ (x = y → Y27 d Q 9 lv st σ) := yX_at (.if_icmp .ne 32, 3, 38, 0, 0, 0, []) rfl
theorem g27_9  : Y27 d Q 9 lv st σ ↔ zldR lv 0 (fun x => Y27 d Q 10 lv (.ref x :: st) σ) := yX_at (.aload_n 0, 1, 0, 0, 0, 0, []) rfl
theorem g27_10  : Y27 d Q 10 lv st σ ↔ zdup st (fun r => Y27 d Q 11 lv r σ) := yX_at (.dup, 1, 0, 0, 0, 0, []) rfl
theorem g27_11 {c : Nat} : Y27 d Q 11 lv (.ref c :: st) σ ↔ zK c = 2 ∧ Y27 d Q 14 lv (zfv σ c 8 :: st) σ := yX_at (.getfield 46, 3, 2, 8, 37, 0, []) rfl
theorem g27_14  : Y27 d Q 14 lv st σ ↔ Y27 d Q 15 lv (.int 1 :: st) σ := yX_at (.iconst 1, 1, 0, 0, 0, 0, []) rfl
theorem g27_15 {x y : Int32} : Y27 d Q 15 lv (.int y :: .int x :: st) σ ↔ Y27 d Q 16 lv (.int (x - y) :: st) σ := yX_at (.isub, 1, 0, 0, 0, 0, []) rfl
theorem g27_16 {x : Int32} {c : Nat} : Y27 d Q 16 lv (.int x :: .ref c :: st) σ ↔ zK c = 2 ∧ Y27 d Q 19 lv st (zwI σ c 8 x) := yX_at (.putfield 46, 3, 2, 8, 37, 0, []) rfl
theorem g27_19  : Y27 d Q 19 lv st σ ↔ zldR lv 0 (fun x => Y27 d Q 20 lv (.ref x :: st) σ) := yX_at (.aload_n 0, 1, 0, 0, 0, 0, []) rfl
theorem g27_20 {c : Nat} : Y27 d Q 20 lv (.ref c :: st) σ ↔ zK c = 2 ∧ Y27 d Q 23 lv (zfv σ c 9 :: st) σ := yX_at (.getfield 27, 3, 2, 9, 45, 0, []) rfl
theorem g27_23  : Y27 d Q 23 lv st σ ↔ Y27 d Q 24 lv (.int 5 :: st) σ := yX_at (.iconst 5, 1, 0, 0, 0, 0, []) rfl
theorem g27_24  : Y27 d Q 24 lv st σ ↔ zldR lv 0 (fun x => Y27 d Q 25 lv (.ref x :: st) σ) := yX_at (.aload_n 0, 1, 0, 0, 0, 0, []) rfl
theorem g27_25 {c : Nat} : Y27 d Q 25 lv (.ref c :: st) σ ↔ zK c = 2 ∧ Y27 d Q 28 lv (zfv σ c 9 :: st) σ := yX_at (.getfield 27, 3, 2, 9, 45, 0, []) rfl
theorem g27_28  : Y27 d Q 28 lv st σ ↔ Y27 d Q 29 lv (.int 0 :: st) σ := yX_at (.iconst 0, 1, 0, 0, 0, 0, []) rfl
theorem g27_29  : Y27 d Q 29 lv st σ ↔ zldR lv 0 (fun x => Y27 d Q 30 lv (.ref x :: st) σ) := yX_at (.aload_n 0, 1, 0, 0, 0, 0, []) rfl
theorem g27_30 {c : Nat} : Y27 d Q 30 lv (.ref c :: st) σ ↔ zK c = 2 ∧ Y27 d Q 33 lv (zfv σ c 8 :: st) σ := yX_at (.getfield 46, 3, 2, 8, 37, 0, []) rfl
theorem g27_33  : Y27 d Q 33 lv st σ ↔ Y27 d Q 34 lv (.int 5 :: st) σ := yX_at (.iconst 5, 1, 0, 0, 0, 0, []) rfl
theorem g27_34 {x y : Int32} : Y27 d Q 34 lv (.int y :: .int x :: st) σ ↔ Y27 d Q 35 lv (.int (x * y) :: st) σ := yX_at (.imul, 1, 0, 0, 0, 0, []) rfl
theorem g27_35 {n dp sp : Int32} {c0 c1 : Nat} : Y27 d Q 35 lv (.int n :: .int dp :: .ref c1 :: .int sp :: .ref c0 :: st) σ ↔ (zK c0 = 100 ∧ zK c1 = 100 ∧ st = [] ∧ (¬ sp < 0) ∧ (¬ dp < 0) ∧ (¬ n < 0) ∧ sp.toNatClampNeg + n.toNatClampNeg ≤ zLn c0 ∧ dp.toNatClampNeg + n.toNatClampNeg ≤ zLn c1) ∧ Y27 d Q 38 lv st (zwA σ c1 (va_cpy (σ.1 c0) (σ.1 c1) sp.toNatClampNeg dp.toNatClampNeg n.toNatClampNeg)) := yX_at (.invokestatic 49, 3, 900, 5, 43, 0, []) rfl
theorem g27_38  : Y27 d Q 38 lv st σ ↔ zldR lv 0 (fun x => Y27 d Q 39 lv (.ref x :: st) σ) := yX_at (.aload_n 0, 1, 0, 0, 0, 0, []) rfl
theorem g27_39 {c : Nat} : Y27 d Q 39 lv (.ref c :: st) σ ↔ zK c = 2 ∧ Y27 d Q 42 lv (zfv σ c 8 :: st) σ := yX_at (.getfield 46, 3, 2, 8, 37, 0, []) rfl
theorem g27_42  : Y27 d Q 42 lv st σ ↔ Y27 d Q 43 lv (.int 5 :: st) σ := yX_at (.iconst 5, 1, 0, 0, 0, 0, []) rfl
theorem g27_43 {x y : Int32} : Y27 d Q 43 lv (.int y :: .int x :: st) σ ↔ Y27 d Q 44 lv (.int (x * y) :: st) σ := yX_at (.imul, 1, 0, 0, 0, 0, []) rfl
theorem g27_44 {x : Int32} : Y27 d Q 44 lv (.int x :: st) σ ↔ Y27 d Q 45 (zs1 2 (.int x) lv) st σ := yX_at (.istore_n 2, 1, 0, 0, 0, 0, []) rfl
theorem g27_45  : Y27 d Q 45 lv st σ ↔ zldR lv 0 (fun x => Y27 d Q 46 lv (.ref x :: st) σ) := yX_at (.aload_n 0, 1, 0, 0, 0, 0, []) rfl
theorem g27_46 {c : Nat} : Y27 d Q 46 lv (.ref c :: st) σ ↔ zK c = 2 ∧ Y27 d Q 49 lv (zfv σ c 9 :: st) σ := yX_at (.getfield 27, 3, 2, 9, 45, 0, []) rfl
theorem g27_49  : Y27 d Q 49 lv st σ ↔ zldI lv 2 (fun x => Y27 d Q 50 lv (.int x :: st) σ) := yX_at (.iload_n 2, 1, 0, 0, 0, 0, []) rfl
theorem g27_50  : Y27 d Q 50 lv st σ ↔ Y27 d Q 51 lv (.int 0 :: st) σ := yX_at (.iconst 0, 1, 0, 0, 0, 0, []) rfl
theorem g27_51 {x y : Int32} : Y27 d Q 51 lv (.int y :: .int x :: st) σ ↔ Y27 d Q 52 lv (.int (x + y) :: st) σ := yX_at (.iadd, 1, 0, 0, 0, 0, []) rfl
theorem g27_52  : Y27 d Q 52 lv st σ ↔ zldI lv 1 (fun x => Y27 d Q 53 lv (.int x :: st) σ) := yX_at (.iload_n 1, 1, 0, 0, 0, 0, []) rfl
theorem g27_53 {x j : Int32} {c : Nat} : Y27 d Q 53 lv (.int x :: .int j :: .ref c :: st) σ ↔ (zK c = 100 ∧ vp_in j (zLn c)) ∧ Y27 d Q 54 lv st (zwI σ c j.toNatClampNeg x) := yX_at (.iastore, 1, 0, 0, 0, 0, []) rfl
theorem g27_54  : Y27 d Q 54 lv st σ ↔ zldR lv 0 (fun x => Y27 d Q 55 lv (.ref x :: st) σ) := yX_at (.aload_n 0, 1, 0, 0, 0, 0, []) rfl
theorem g27_55 {c : Nat} : Y27 d Q 55 lv (.ref c :: st) σ ↔ zK c = 2 ∧ Y27 d Q 58 lv (zfv σ c 9 :: st) σ := yX_at (.getfield 27, 3, 2, 9, 45, 0, []) rfl
theorem g27_58  : Y27 d Q 58 lv st σ ↔ zldI lv 2 (fun x => Y27 d Q 59 lv (.int x :: st) σ) := yX_at (.iload_n 2, 1, 0, 0, 0, 0, []) rfl
theorem g27_59  : Y27 d Q 59 lv st σ ↔ Y27 d Q 60 lv (.int 1 :: st) σ := yX_at (.iconst 1, 1, 0, 0, 0, 0, []) rfl
theorem g27_60 {x y : Int32} : Y27 d Q 60 lv (.int y :: .int x :: st) σ ↔ Y27 d Q 61 lv (.int (x + y) :: st) σ := yX_at (.iadd, 1, 0, 0, 0, 0, []) rfl
theorem g27_61  : Y27 d Q 61 lv st σ ↔ zldR lv 0 (fun x => Y27 d Q 62 lv (.ref x :: st) σ) := yX_at (.aload_n 0, 1, 0, 0, 0, 0, []) rfl
theorem g27_62 {c : Nat} : Y27 d Q 62 lv (.ref c :: st) σ ↔ zK c = 2 ∧ Y27 d Q 65 lv (zfv σ c 5 :: st) σ := yX_at (.getfield 18, 3, 2, 5, 41, 0, []) rfl
theorem g27_65  : Y27 d Q 65 lv st σ ↔ zldI lv 1 (fun x => Y27 d Q 66 lv (.int x :: st) σ) := yX_at (.iload_n 1, 1, 0, 0, 0, 0, []) rfl
theorem g27_66 {j : Int32} {c : Nat} : Y27 d Q 66 lv (.int j :: .ref c :: st) σ ↔ (zK c = 100 ∧ vp_in j (zLn c)) ∧ Y27 d Q 67 lv (.int (σ.1 c j.toNatClampNeg) :: st) σ := yX_at (.iaload, 1, 0, 0, 0, 0, []) rfl
theorem g27_67 {x j : Int32} {c : Nat} : Y27 d Q 67 lv (.int x :: .int j :: .ref c :: st) σ ↔ (zK c = 100 ∧ vp_in j (zLn c)) ∧ Y27 d Q 68 lv st (zwI σ c j.toNatClampNeg x) := yX_at (.iastore, 1, 0, 0, 0, 0, []) rfl
theorem g27_68  : Y27 d Q 68 lv st σ ↔ zldR lv 0 (fun x => Y27 d Q 69 lv (.ref x :: st) σ) := yX_at (.aload_n 0, 1, 0, 0, 0, 0, []) rfl
theorem g27_69 {c : Nat} : Y27 d Q 69 lv (.ref c :: st) σ ↔ zK c = 2 ∧ Y27 d Q 72 lv (zfv σ c 9 :: st) σ := yX_at (.getfield 27, 3, 2, 9, 45, 0, []) rfl
theorem g27_72  : Y27 d Q 72 lv st σ ↔ zldI lv 2 (fun x => Y27 d Q 73 lv (.int x :: st) σ) := yX_at (.iload_n 2, 1, 0, 0, 0, 0, []) rfl
theorem g27_73  : Y27 d Q 73 lv st σ ↔ Y27 d Q 74 lv (.int 2 :: st) σ := yX_at (.iconst 2, 1, 0, 0, 0, 0, []) rfl
theorem g27_74 {x y : Int32} : Y27 d Q 74 lv (.int y :: .int x :: st) σ ↔ Y27 d Q 75 lv (.int (x + y) :: st) σ := yX_at (.iadd, 1, 0, 0, 0, 0, []) rfl
theorem g27_75  : Y27 d Q 75 lv st σ ↔ zldR lv 0 (fun x => Y27 d Q 76 lv (.ref x :: st) σ) := yX_at (.aload_n 0, 1, 0, 0, 0, 0, []) rfl
theorem g27_76 {c : Nat} : Y27 d Q 76 lv (.ref c :: st) σ ↔ zK c = 2 ∧ Y27 d Q 79 lv (zfv σ c 3 :: st) σ := yX_at (.getfield 9, 3, 2, 3, 38, 0, []) rfl
theorem g27_79  : Y27 d Q 79 lv st σ ↔ zldI lv 1 (fun x => Y27 d Q 80 lv (.int x :: st) σ) := yX_at (.iload_n 1, 1, 0, 0, 0, 0, []) rfl
theorem g27_80 {j : Int32} {c : Nat} : Y27 d Q 80 lv (.int j :: .ref c :: st) σ ↔ (zK c = 100 ∧ vp_in j (zLn c)) ∧ Y27 d Q 81 lv (.int (σ.1 c j.toNatClampNeg) :: st) σ := yX_at (.iaload, 1, 0, 0, 0, 0, []) rfl
theorem g27_81  : Y27 d Q 81 lv st σ ↔ Y27 d Q 82 lv (.int 1 :: st) σ := yX_at (.iconst 1, 1, 0, 0, 0, 0, []) rfl
theorem g27_82 {x y : Int32} : Y27 d Q 82 lv (.int y :: .int x :: st) σ ↔ (¬ x = y → Y27 d Q 93 lv st σ) ∧ (x = y → Y27 d Q 85 lv st σ) := yX_at (.if_icmp .ne 11, 3, 93, 0, 0, 0, []) rfl
theorem g27_85  : Y27 d Q 85 lv st σ ↔ zldR lv 0 (fun x => Y27 d Q 86 lv (.ref x :: st) σ) := yX_at (.aload_n 0, 1, 0, 0, 0, 0, []) rfl
theorem g27_86  : Y27 d Q 86 lv st σ ↔ zldI lv 1 (fun x => Y27 d Q 87 lv (.int x :: st) σ) := yX_at (.iload_n 1, 1, 0, 0, 0, 0, []) rfl
theorem g27_87 {v0 : Value} {c : Nat} : Y27 d Q 87 lv (v0 :: .ref c :: st) σ ↔ (zrcv 2 c ∧ zrm st) ∧ ∃ rv σ', yE d 26 [.ref c, v0] σ rv σ' ∧ Y27 d Q 90 lv (rv.toList ++ st) σ' := yX_at (.invokevirtual 59, 3, 26, 1, 47, 0, []) rfl
theorem g27_90  : Y27 d Q 90 lv st σ ↔ Y27 d Q 94 lv st σ := yX_at (.goto 4, 3, 94, 0, 0, 0, []) rfl
theorem g27_93  : Y27 d Q 93 lv st σ ↔ Y27 d Q 94 lv (.int 0 :: st) σ := yX_at (.iconst 0, 1, 0, 0, 0, 0, []) rfl
theorem g27_94 {x j : Int32} {c : Nat} : Y27 d Q 94 lv (.int x :: .int j :: .ref c :: st) σ ↔ (zK c = 100 ∧ vp_in j (zLn c)) ∧ Y27 d Q 95 lv st (zwI σ c j.toNatClampNeg x) := yX_at (.iastore, 1, 0, 0, 0, 0, []) rfl
theorem g27_95  : Y27 d Q 95 lv st σ ↔ zldR lv 0 (fun x => Y27 d Q 96 lv (.ref x :: st) σ) := yX_at (.aload_n 0, 1, 0, 0, 0, 0, []) rfl
theorem g27_96 {c : Nat} : Y27 d Q 96 lv (.ref c :: st) σ ↔ zK c = 2 ∧ Y27 d Q 99 lv (zfv σ c 9 :: st) σ := yX_at (.getfield 27, 3, 2, 9, 45, 0, []) rfl
theorem g27_99  : Y27 d Q 99 lv st σ ↔ zldI lv 2 (fun x => Y27 d Q 100 lv (.int x :: st) σ) := yX_at (.iload_n 2, 1, 0, 0, 0, 0, []) rfl
theorem g27_100  : Y27 d Q 100 lv st σ ↔ Y27 d Q 101 lv (.int 3 :: st) σ := yX_at (.iconst 3, 1, 0, 0, 0, 0, []) rfl
theorem g27_101 {x y : Int32} : Y27 d Q 101 lv (.int y :: .int x :: st) σ ↔ Y27 d Q 102 lv (.int (x + y) :: st) σ := yX_at (.iadd, 1, 0, 0, 0, 0, []) rfl
theorem g27_102  : Y27 d Q 102 lv st σ ↔ zldR lv 0 (fun x => Y27 d Q 103 lv (.ref x :: st) σ) := yX_at (.aload_n 0, 1, 0, 0, 0, 0, []) rfl
theorem g27_103 {c : Nat} : Y27 d Q 103 lv (.ref c :: st) σ ↔ zK c = 2 ∧ Y27 d Q 106 lv (zfv σ c 4 :: st) σ := yX_at (.getfield 15, 3, 2, 4, 40, 0, []) rfl
theorem g27_106  : Y27 d Q 106 lv st σ ↔ zldI lv 1 (fun x => Y27 d Q 107 lv (.int x :: st) σ) := yX_at (.iload_n 1, 1, 0, 0, 0, 0, []) rfl
theorem g27_107 {j : Int32} {c : Nat} : Y27 d Q 107 lv (.int j :: .ref c :: st) σ ↔ (zK c = 100 ∧ vp_in j (zLn c)) ∧ Y27 d Q 108 lv (.int (σ.1 c j.toNatClampNeg) :: st) σ := yX_at (.iaload, 1, 0, 0, 0, 0, []) rfl
theorem g27_108 {x j : Int32} {c : Nat} : Y27 d Q 108 lv (.int x :: .int j :: .ref c :: st) σ ↔ (zK c = 100 ∧ vp_in j (zLn c)) ∧ Y27 d Q 109 lv st (zwI σ c j.toNatClampNeg x) := yX_at (.iastore, 1, 0, 0, 0, 0, []) rfl
theorem g27_109  : Y27 d Q 109 lv st σ ↔ zldR lv 0 (fun x => Y27 d Q 110 lv (.ref x :: st) σ) := yX_at (.aload_n 0, 1, 0, 0, 0, 0, []) rfl
theorem g27_110 {c : Nat} : Y27 d Q 110 lv (.ref c :: st) σ ↔ zK c = 2 ∧ Y27 d Q 113 lv (zfv σ c 9 :: st) σ := yX_at (.getfield 27, 3, 2, 9, 45, 0, []) rfl
theorem g27_113  : Y27 d Q 113 lv st σ ↔ zldI lv 2 (fun x => Y27 d Q 114 lv (.int x :: st) σ) := yX_at (.iload_n 2, 1, 0, 0, 0, 0, []) rfl
theorem g27_114  : Y27 d Q 114 lv st σ ↔ Y27 d Q 115 lv (.int 4 :: st) σ := yX_at (.iconst 4, 1, 0, 0, 0, 0, []) rfl
theorem g27_115 {x y : Int32} : Y27 d Q 115 lv (.int y :: .int x :: st) σ ↔ Y27 d Q 116 lv (.int (x + y) :: st) σ := yX_at (.iadd, 1, 0, 0, 0, 0, []) rfl
theorem g27_116  : Y27 d Q 116 lv st σ ↔ zldR lv 0 (fun x => Y27 d Q 117 lv (.ref x :: st) σ) := yX_at (.aload_n 0, 1, 0, 0, 0, 0, []) rfl
theorem g27_117 {c : Nat} : Y27 d Q 117 lv (.ref c :: st) σ ↔ zK c = 2 ∧ Y27 d Q 120 lv (zfv σ c 2 :: st) σ := yX_at (.getfield 43, 3, 2, 2, 36, 0, []) rfl
theorem g27_120 {x j : Int32} {c : Nat} : Y27 d Q 120 lv (.int x :: .int j :: .ref c :: st) σ ↔ (zK c = 100 ∧ vp_in j (zLn c)) ∧ Y27 d Q 121 lv st (zwI σ c j.toNatClampNeg x) := yX_at (.iastore, 1, 0, 0, 0, 0, []) rfl
theorem g27_121  : Y27 d Q 121 lv st σ ↔ zldR lv 0 (fun x => Y27 d Q 122 lv (.ref x :: st) σ) := yX_at (.aload_n 0, 1, 0, 0, 0, 0, []) rfl
theorem g27_122  : Y27 d Q 122 lv st σ ↔ zdup st (fun r => Y27 d Q 123 lv r σ) := yX_at (.dup, 1, 0, 0, 0, 0, []) rfl
theorem g27_123 {c : Nat} : Y27 d Q 123 lv (.ref c :: st) σ ↔ zK c = 2 ∧ Y27 d Q 126 lv (zfv σ c 8 :: st) σ := yX_at (.getfield 46, 3, 2, 8, 37, 0, []) rfl
theorem g27_126  : Y27 d Q 126 lv st σ ↔ Y27 d Q 127 lv (.int 1 :: st) σ := yX_at (.iconst 1, 1, 0, 0, 0, 0, []) rfl
theorem g27_127 {x y : Int32} : Y27 d Q 127 lv (.int y :: .int x :: st) σ ↔ Y27 d Q 128 lv (.int (x + y) :: st) σ := yX_at (.iadd, 1, 0, 0, 0, 0, []) rfl
theorem g27_128 {x : Int32} {c : Nat} : Y27 d Q 128 lv (.int x :: .ref c :: st) σ ↔ zK c = 2 ∧ Y27 d Q 131 lv st (zwI σ c 8 x) := yX_at (.putfield 46, 3, 2, 8, 37, 0, []) rfl
theorem g27_131  : Y27 d Q 131 lv [] σ ↔ Q none σ := yX_at (.return_, 1, 0, 0, 0, 0, []) rfl
end G27
def Y28 (d : Nat) (Q : Option Value → zSt → Prop) (pc : Nat) (lv : zLv) (st : List Value) (σ : zSt) : Prop := yX (yE d) ySn zt28 Q pc lv st σ
theorem C28 {d : Nat} {as : List Value} {σ : zSt} {P : Option Value → zSt → Prop} (hl : (lg_sl as).length ≤ 4) (h : Y28 d P 0 (lv_args 0 as) [] σ) : yC (d + 1) 28 as σ P := yC_of (by decide) hl h
section G28
variable {d : Nat} {Q : Option Value → zSt → Prop} {lv : zLv} {st : List Value} {σ : zSt}
theorem g28_0  : Y28 d Q 0 lv st σ ↔ zldR lv 0 (fun x => Y28 d Q 1 lv (.ref x :: st) σ) := yX_at (.aload_n 0, 1, 0, 0, 0, 0, []) rfl
theorem g28_1  : Y28 d Q 1 lv st σ ↔ zdup st (fun r => Y28 d Q 2 lv r σ) := yX_at (.dup, 1, 0, 0, 0, 0, []) rfl
theorem g28_2 {c : Nat} : Y28 d Q 2 lv (.ref c :: st) σ ↔ zK c = 2 ∧ Y28 d Q 5 lv (zfv σ c 8 :: st) σ := yX_at (.getfield 46, 3, 2, 8, 37, 0, []) rfl
theorem g28_5  : Y28 d Q 5 lv st σ ↔ Y28 d Q 6 lv (.int 1 :: st) σ := yX_at (.iconst 1, 1, 0, 0, 0, 0, []) rfl
theorem g28_6 {x y : Int32} : Y28 d Q 6 lv (.int y :: .int x :: st) σ ↔ Y28 d Q 7 lv (.int (x - y) :: st) σ := yX_at (.isub, 1, 0, 0, 0, 0, []) rfl
theorem g28_7 {x : Int32} {c : Nat} : Y28 d Q 7 lv (.int x :: .ref c :: st) σ ↔ zK c = 2 ∧ Y28 d Q 10 lv st (zwI σ c 8 x) := yX_at (.putfield 46, 3, 2, 8, 37, 0, []) rfl
theorem g28_10  : Y28 d Q 10 lv st σ ↔ zldR lv 0 (fun x => Y28 d Q 11 lv (.ref x :: st) σ) := yX_at (.aload_n 0, 1, 0, 0, 0, 0, []) rfl
theorem g28_11 {c : Nat} : Y28 d Q 11 lv (.ref c :: st) σ ↔ zK c = 2 ∧ Y28 d Q 14 lv (zfv σ c 8 :: st) σ := yX_at (.getfield 46, 3, 2, 8, 37, 0, []) rfl
theorem g28_14  : Y28 d Q 14 lv st σ ↔ Y28 d Q 15 lv (.int 5 :: st) σ := yX_at (.iconst 5, 1, 0, 0, 0, 0, []) rfl
theorem g28_15 {x y : Int32} : Y28 d Q 15 lv (.int y :: .int x :: st) σ ↔ Y28 d Q 16 lv (.int (x * y) :: st) σ := yX_at (.imul, 1, 0, 0, 0, 0, []) rfl
theorem g28_16 {x : Int32} : Y28 d Q 16 lv (.int x :: st) σ ↔ Y28 d Q 17 (zs1 1 (.int x) lv) st σ := yX_at (.istore_n 1, 1, 0, 0, 0, 0, []) rfl
theorem g28_17  : Y28 d Q 17 lv st σ ↔ zldR lv 0 (fun x => Y28 d Q 18 lv (.ref x :: st) σ) := yX_at (.aload_n 0, 1, 0, 0, 0, 0, []) rfl
theorem g28_18 {c : Nat} : Y28 d Q 18 lv (.ref c :: st) σ ↔ zK c = 2 ∧ Y28 d Q 21 lv (zfv σ c 9 :: st) σ := yX_at (.getfield 27, 3, 2, 9, 45, 0, []) rfl
theorem g28_21  : Y28 d Q 21 lv st σ ↔ zldI lv 1 (fun x => Y28 d Q 22 lv (.int x :: st) σ) := yX_at (.iload_n 1, 1, 0, 0, 0, 0, []) rfl
theorem g28_22  : Y28 d Q 22 lv st σ ↔ Y28 d Q 23 lv (.int 0 :: st) σ := yX_at (.iconst 0, 1, 0, 0, 0, 0, []) rfl
theorem g28_23 {x y : Int32} : Y28 d Q 23 lv (.int y :: .int x :: st) σ ↔ Y28 d Q 24 lv (.int (x + y) :: st) σ := yX_at (.iadd, 1, 0, 0, 0, 0, []) rfl
theorem g28_24 {j : Int32} {c : Nat} : Y28 d Q 24 lv (.int j :: .ref c :: st) σ ↔ (zK c = 100 ∧ vp_in j (zLn c)) ∧ Y28 d Q 25 lv (.int (σ.1 c j.toNatClampNeg) :: st) σ := yX_at (.iaload, 1, 0, 0, 0, 0, []) rfl
theorem g28_25 {x : Int32} : Y28 d Q 25 lv (.int x :: st) σ ↔ Y28 d Q 26 (zs1 2 (.int x) lv) st σ := yX_at (.istore_n 2, 1, 0, 0, 0, 0, []) rfl
theorem g28_26  : Y28 d Q 26 lv st σ ↔ zldR lv 0 (fun x => Y28 d Q 27 lv (.ref x :: st) σ) := yX_at (.aload_n 0, 1, 0, 0, 0, 0, []) rfl
theorem g28_27 {c : Nat} : Y28 d Q 27 lv (.ref c :: st) σ ↔ zK c = 2 ∧ Y28 d Q 30 lv (zfv σ c 9 :: st) σ := yX_at (.getfield 27, 3, 2, 9, 45, 0, []) rfl
theorem g28_30  : Y28 d Q 30 lv st σ ↔ zldI lv 1 (fun x => Y28 d Q 31 lv (.int x :: st) σ) := yX_at (.iload_n 1, 1, 0, 0, 0, 0, []) rfl
theorem g28_31  : Y28 d Q 31 lv st σ ↔ Y28 d Q 32 lv (.int 1 :: st) σ := yX_at (.iconst 1, 1, 0, 0, 0, 0, []) rfl
theorem g28_32 {x y : Int32} : Y28 d Q 32 lv (.int y :: .int x :: st) σ ↔ Y28 d Q 33 lv (.int (x + y) :: st) σ := yX_at (.iadd, 1, 0, 0, 0, 0, []) rfl
theorem g28_33 {j : Int32} {c : Nat} : Y28 d Q 33 lv (.int j :: .ref c :: st) σ ↔ (zK c = 100 ∧ vp_in j (zLn c)) ∧ Y28 d Q 34 lv (.int (σ.1 c j.toNatClampNeg) :: st) σ := yX_at (.iaload, 1, 0, 0, 0, 0, []) rfl
theorem g28_34 {x : Int32} : Y28 d Q 34 lv (.int x :: st) σ ↔ Y28 d Q 35 (zs1 3 (.int x) lv) st σ := yX_at (.istore_n 3, 1, 0, 0, 0, 0, []) rfl
theorem g28_35  : Y28 d Q 35 lv st σ ↔ zldR lv 0 (fun x => Y28 d Q 36 lv (.ref x :: st) σ) := yX_at (.aload_n 0, 1, 0, 0, 0, 0, []) rfl
theorem g28_36 {c : Nat} : Y28 d Q 36 lv (.ref c :: st) σ ↔ zK c = 2 ∧ Y28 d Q 39 lv (zfv σ c 3 :: st) σ := yX_at (.getfield 9, 3, 2, 3, 38, 0, []) rfl
theorem g28_39  : Y28 d Q 39 lv st σ ↔ zldI lv 2 (fun x => Y28 d Q 40 lv (.int x :: st) σ) := yX_at (.iload_n 2, 1, 0, 0, 0, 0, []) rfl
theorem g28_40 {j : Int32} {c : Nat} : Y28 d Q 40 lv (.int j :: .ref c :: st) σ ↔ (zK c = 100 ∧ vp_in j (zLn c)) ∧ Y28 d Q 41 lv (.int (σ.1 c j.toNatClampNeg) :: st) σ := yX_at (.iaload, 1, 0, 0, 0, 0, []) rfl
theorem g28_41  : Y28 d Q 41 lv st σ ↔ Y28 d Q 42 lv (.int 1 :: st) σ := yX_at (.iconst 1, 1, 0, 0, 0, 0, []) rfl
theorem g28_42 {x y : Int32} : Y28 d Q 42 lv (.int y :: .int x :: st) σ ↔ (¬ x = y → Y28 d Q 51 lv st σ) ∧ (x = y → Y28 d Q 45 lv st σ) := yX_at (.if_icmp .ne 9, 3, 51, 0, 0, 0, []) rfl
theorem g28_45  : Y28 d Q 45 lv st σ ↔ zldR lv 0 (fun x => Y28 d Q 46 lv (.ref x :: st) σ) := yX_at (.aload_n 0, 1, 0, 0, 0, 0, []) rfl
theorem g28_46  : Y28 d Q 46 lv st σ ↔ zldI lv 2 (fun x => Y28 d Q 47 lv (.int x :: st) σ) := yX_at (.iload_n 2, 1, 0, 0, 0, 0, []) rfl
theorem g28_47  : Y28 d Q 47 lv st σ ↔ Y28 d Q 48 lv (.int 0 :: st) σ := yX_at (.iconst 0, 1, 0, 0, 0, 0, []) rfl
theorem g28_48 {v0 v1 : Value} {c : Nat} : Y28 d Q 48 lv (v1 :: v0 :: .ref c :: st) σ ↔ (zrcv 2 c ∧ zrm st) ∧ ∃ rv σ', yE d 25 [.ref c, v0, v1] σ rv σ' ∧ Y28 d Q 51 lv (rv.toList ++ st) σ' := yX_at (.invokevirtual 63, 3, 25, 2, 48, 0, []) rfl
theorem g28_51  : Y28 d Q 51 lv st σ ↔ zldI lv 3 (fun x => Y28 d Q 52 lv (.int x :: st) σ) := yX_at (.iload_n 3, 1, 0, 0, 0, 0, []) rfl
theorem g28_52  : Y28 d Q 52 lv st σ ↔ Y28 d Q 53 lv (.int (-1) :: st) σ := by
  rw [show (-1 : Int32) = Int32.ofInt (-1) from by decide]
  exact yX_at (.iconst (-1), 1, 0, 0, 0, 0, []) rfl
theorem g28_53 {x y : Int32} : Y28 d Q 53 lv (.int y :: .int x :: st) σ ↔ (x = y → Y28 d Q 78 lv st σ) ∧ (¬ x = y → Y28 d Q 56 lv st σ) := yX_at (.if_icmp .eq 25, 3, 78, 0, 0, 0, []) rfl
theorem g28_56  : Y28 d Q 56 lv st σ ↔ zldR lv 0 (fun x => Y28 d Q 57 lv (.ref x :: st) σ) := yX_at (.aload_n 0, 1, 0, 0, 0, 0, []) rfl
theorem g28_57  : Y28 d Q 57 lv st σ ↔ zldI lv 2 (fun x => Y28 d Q 58 lv (.int x :: st) σ) := yX_at (.iload_n 2, 1, 0, 0, 0, 0, []) rfl
theorem g28_58  : Y28 d Q 58 lv st σ ↔ zldI lv 3 (fun x => Y28 d Q 59 lv (.int x :: st) σ) := yX_at (.iload_n 3, 1, 0, 0, 0, 0, []) rfl
theorem g28_59  : Y28 d Q 59 lv st σ ↔ zldR lv 0 (fun x => Y28 d Q 60 lv (.ref x :: st) σ) := yX_at (.aload_n 0, 1, 0, 0, 0, 0, []) rfl
theorem g28_60 {c : Nat} : Y28 d Q 60 lv (.ref c :: st) σ ↔ zK c = 2 ∧ Y28 d Q 63 lv (zfv σ c 9 :: st) σ := yX_at (.getfield 27, 3, 2, 9, 45, 0, []) rfl
theorem g28_63  : Y28 d Q 63 lv st σ ↔ zldI lv 1 (fun x => Y28 d Q 64 lv (.int x :: st) σ) := yX_at (.iload_n 1, 1, 0, 0, 0, 0, []) rfl
theorem g28_64  : Y28 d Q 64 lv st σ ↔ Y28 d Q 65 lv (.int 2 :: st) σ := yX_at (.iconst 2, 1, 0, 0, 0, 0, []) rfl
theorem g28_65 {x y : Int32} : Y28 d Q 65 lv (.int y :: .int x :: st) σ ↔ Y28 d Q 66 lv (.int (x + y) :: st) σ := yX_at (.iadd, 1, 0, 0, 0, 0, []) rfl
theorem g28_66 {j : Int32} {c : Nat} : Y28 d Q 66 lv (.int j :: .ref c :: st) σ ↔ (zK c = 100 ∧ vp_in j (zLn c)) ∧ Y28 d Q 67 lv (.int (σ.1 c j.toNatClampNeg) :: st) σ := yX_at (.iaload, 1, 0, 0, 0, 0, []) rfl
theorem g28_67  : Y28 d Q 67 lv st σ ↔ zldR lv 0 (fun x => Y28 d Q 68 lv (.ref x :: st) σ) := yX_at (.aload_n 0, 1, 0, 0, 0, 0, []) rfl
theorem g28_68 {c : Nat} : Y28 d Q 68 lv (.ref c :: st) σ ↔ zK c = 2 ∧ Y28 d Q 71 lv (zfv σ c 9 :: st) σ := yX_at (.getfield 27, 3, 2, 9, 45, 0, []) rfl
theorem g28_71  : Y28 d Q 71 lv st σ ↔ zldI lv 1 (fun x => Y28 d Q 72 lv (.int x :: st) σ) := yX_at (.iload_n 1, 1, 0, 0, 0, 0, []) rfl
theorem g28_72  : Y28 d Q 72 lv st σ ↔ Y28 d Q 73 lv (.int 3 :: st) σ := yX_at (.iconst 3, 1, 0, 0, 0, 0, []) rfl
theorem g28_73 {x y : Int32} : Y28 d Q 73 lv (.int y :: .int x :: st) σ ↔ Y28 d Q 74 lv (.int (x + y) :: st) σ := yX_at (.iadd, 1, 0, 0, 0, 0, []) rfl
theorem g28_74 {j : Int32} {c : Nat} : Y28 d Q 74 lv (.int j :: .ref c :: st) σ ↔ (zK c = 100 ∧ vp_in j (zLn c)) ∧ Y28 d Q 75 lv (.int (σ.1 c j.toNatClampNeg) :: st) σ := yX_at (.iaload, 1, 0, 0, 0, 0, []) rfl
theorem g28_75 {v0 v1 v2 v3 : Value} {c : Nat} : Y28 d Q 75 lv (v3 :: v2 :: v1 :: v0 :: .ref c :: st) σ ↔ (zrcv 2 c ∧ zrm st) ∧ ∃ rv σ', yE d 24 [.ref c, v0, v1, v2, v3] σ rv σ' ∧ Y28 d Q 78 lv (rv.toList ++ st) σ' := yX_at (.invokevirtual 67, 3, 24, 4, 49, 0, []) rfl
theorem g28_78  : Y28 d Q 78 lv st σ ↔ zldR lv 0 (fun x => Y28 d Q 79 lv (.ref x :: st) σ) := yX_at (.aload_n 0, 1, 0, 0, 0, 0, []) rfl
theorem g28_79  : Y28 d Q 79 lv st σ ↔ zldR lv 0 (fun x => Y28 d Q 80 lv (.ref x :: st) σ) := yX_at (.aload_n 0, 1, 0, 0, 0, 0, []) rfl
theorem g28_80 {c : Nat} : Y28 d Q 80 lv (.ref c :: st) σ ↔ zK c = 2 ∧ Y28 d Q 83 lv (zfv σ c 9 :: st) σ := yX_at (.getfield 27, 3, 2, 9, 45, 0, []) rfl
theorem g28_83  : Y28 d Q 83 lv st σ ↔ zldI lv 1 (fun x => Y28 d Q 84 lv (.int x :: st) σ) := yX_at (.iload_n 1, 1, 0, 0, 0, 0, []) rfl
theorem g28_84  : Y28 d Q 84 lv st σ ↔ Y28 d Q 85 lv (.int 4 :: st) σ := yX_at (.iconst 4, 1, 0, 0, 0, 0, []) rfl
theorem g28_85 {x y : Int32} : Y28 d Q 85 lv (.int y :: .int x :: st) σ ↔ Y28 d Q 86 lv (.int (x + y) :: st) σ := yX_at (.iadd, 1, 0, 0, 0, 0, []) rfl
theorem g28_86 {j : Int32} {c : Nat} : Y28 d Q 86 lv (.int j :: .ref c :: st) σ ↔ (zK c = 100 ∧ vp_in j (zLn c)) ∧ Y28 d Q 87 lv (.int (σ.1 c j.toNatClampNeg) :: st) σ := yX_at (.iaload, 1, 0, 0, 0, 0, []) rfl
theorem g28_87 {x : Int32} {c : Nat} : Y28 d Q 87 lv (.int x :: .ref c :: st) σ ↔ zK c = 2 ∧ Y28 d Q 90 lv st (zwI σ c 2 x) := yX_at (.putfield 43, 3, 2, 2, 36, 0, []) rfl
theorem g28_90  : Y28 d Q 90 lv [] σ ↔ Q none σ := yX_at (.return_, 1, 0, 0, 0, 0, []) rfl
end G28
def Y29 (d : Nat) (Q : Option Value → zSt → Prop) (pc : Nat) (lv : zLv) (st : List Value) (σ : zSt) : Prop := yX (yE d) ySn zt29 Q pc lv st σ
theorem C29 {d : Nat} {as : List Value} {σ : zSt} {P : Option Value → zSt → Prop} (hl : (lg_sl as).length ≤ 4) (h : Y29 d P 0 (lv_args 0 as) [] σ) : yC (d + 1) 29 as σ P := yC_of (by decide) hl h
section G29
variable {d : Nat} {Q : Option Value → zSt → Prop} {lv : zLv} {st : List Value} {σ : zSt}
theorem g29_0  : Y29 d Q 0 lv st σ ↔ Y29 d Q 1 lv (.int 0 :: st) σ := yX_at (.iconst 0, 1, 0, 0, 0, 0, []) rfl
theorem g29_1 {x : Int32} : Y29 d Q 1 lv (.int x :: st) σ ↔ Y29 d Q 2 (zs1 2 (.int x) lv) st σ := yX_at (.istore_n 2, 1, 0, 0, 0, 0, []) rfl
theorem g29_2  : Y29 d Q 2 lv st σ ↔ Y29 d Q 3 lv (.int 0 :: st) σ := yX_at (.iconst 0, 1, 0, 0, 0, 0, []) rfl
theorem g29_3 {x : Int32} : Y29 d Q 3 lv (.int x :: st) σ ↔ Y29 d Q 4 (zs1 3 (.int x) lv) st σ := yX_at (.istore_n 3, 1, 0, 0, 0, 0, []) rfl
theorem g29_4  : Y29 d Q 4 lv st σ ↔ zldI lv 3 (fun x => Y29 d Q 5 lv (.int x :: st) σ) := yX_at (.iload_n 3, 1, 0, 0, 0, 0, []) rfl
theorem g29_5  : Y29 d Q 5 lv st σ ↔ zldR lv 1 (fun x => Y29 d Q 6 lv (.ref x :: st) σ) := yX_at (.aload_n 1, 1, 0, 0, 0, 0, []) rfl
theorem g29_6 {c : Nat} : Y29 d Q 6 lv (.ref c :: st) σ ↔ zK c = 5 ∧ Y29 d Q 9 lv (zfv σ c 0 :: st) σ := yX_at (.getfield 71, 3, 5, 0, 50, 0, []) rfl
theorem g29_9 {x y : Int32} : Y29 d Q 9 lv (.int y :: .int x :: st) σ ↔ (y ≤ x → Y29 d Q 27 lv st σ) ∧ (¬ y ≤ x → Y29 d Q 12 lv st σ) := yX_at (.if_icmp .ge 18, 3, 27, 0, 0, 0, []) rfl
theorem g29_12  : Y29 d Q 12 lv st σ ↔ zldI lv 2 (fun x => Y29 d Q 13 lv (.int x :: st) σ) := yX_at (.iload_n 2, 1, 0, 0, 0, 0, []) rfl
theorem g29_13  : Y29 d Q 13 lv st σ ↔ zldR lv 0 (fun x => Y29 d Q 14 lv (.ref x :: st) σ) := yX_at (.aload_n 0, 1, 0, 0, 0, 0, []) rfl
theorem g29_14  : Y29 d Q 14 lv st σ ↔ zldR lv 1 (fun x => Y29 d Q 15 lv (.ref x :: st) σ) := yX_at (.aload_n 1, 1, 0, 0, 0, 0, []) rfl
theorem g29_15  : Y29 d Q 15 lv st σ ↔ zldI lv 3 (fun x => Y29 d Q 16 lv (.int x :: st) σ) := yX_at (.iload_n 3, 1, 0, 0, 0, 0, []) rfl
theorem g29_16 {v0 v1 : Value} {c : Nat} : Y29 d Q 16 lv (v1 :: v0 :: .ref c :: st) σ ↔ (zrcv 2 c ∧ zrm st) ∧ ∃ rv σ', yE d 30 [.ref c, v0, v1] σ rv σ' ∧ Y29 d Q 19 lv (rv.toList ++ st) σ' := yX_at (.invokevirtual 76, 3, 30, 2, 51, 0, []) rfl
theorem g29_19 {x y : Int32} : Y29 d Q 19 lv (.int y :: .int x :: st) σ ↔ Y29 d Q 20 lv (.int (x + y) :: st) σ := yX_at (.iadd, 1, 0, 0, 0, 0, []) rfl
theorem g29_20 {x : Int32} : Y29 d Q 20 lv (.int x :: st) σ ↔ Y29 d Q 21 (zs1 2 (.int x) lv) st σ := yX_at (.istore_n 2, 1, 0, 0, 0, 0, []) rfl
theorem g29_21  : Y29 d Q 21 lv st σ ↔ zldI lv 3 (fun x => Y29 d Q 24 (zs1 3 (.int (x + 1)) lv) st σ) := yX_at (.iinc 3 1, 3, 0, 0, 0, 0, []) rfl
theorem g29_24  : Y29 d Q 24 lv st σ ↔ Y29 d Q 4 lv st σ := yX_at (.goto (-20), 3, 4, 0, 0, 0, []) rfl
theorem g29_27  : Y29 d Q 27 lv st σ ↔ Y29 d Q 28 lv (.int 0 :: st) σ := yX_at (.iconst 0, 1, 0, 0, 0, 0, []) rfl
theorem g29_28 {x : Int32} : Y29 d Q 28 lv (.int x :: st) σ ↔ Y29 d Q 29 (zs1 3 (.int x) lv) st σ := yX_at (.istore_n 3, 1, 0, 0, 0, 0, []) rfl
theorem g29_29  : Y29 d Q 29 lv st σ ↔ zldI lv 3 (fun x => Y29 d Q 30 lv (.int x :: st) σ) := yX_at (.iload_n 3, 1, 0, 0, 0, 0, []) rfl
theorem g29_30  : Y29 d Q 30 lv st σ ↔ zldR lv 1 (fun x => Y29 d Q 31 lv (.ref x :: st) σ) := yX_at (.aload_n 1, 1, 0, 0, 0, 0, []) rfl
theorem g29_31 {c : Nat} : Y29 d Q 31 lv (.ref c :: st) σ ↔ zK c = 5 ∧ Y29 d Q 34 lv (zfv σ c 4 :: st) σ := yX_at (.getfield 80, 3, 5, 4, 52, 0, []) rfl
theorem g29_34 {x y : Int32} : Y29 d Q 34 lv (.int y :: .int x :: st) σ ↔ (y ≤ x → Y29 d Q 119 lv st σ) ∧ (¬ y ≤ x → Y29 d Q 37 lv st σ) := yX_at (.if_icmp .ge 85, 3, 119, 0, 0, 0, []) rfl
theorem g29_37  : Y29 d Q 37 lv st σ ↔ zldR lv 0 (fun x => Y29 d Q 38 lv (.ref x :: st) σ) := yX_at (.aload_n 0, 1, 0, 0, 0, 0, []) rfl
theorem g29_38 {c : Nat} : Y29 d Q 38 lv (.ref c :: st) σ ↔ zK c = 2 ∧ Y29 d Q 41 lv (zfv σ c 3 :: st) σ := yX_at (.getfield 9, 3, 2, 3, 38, 0, []) rfl
theorem g29_41  : Y29 d Q 41 lv st σ ↔ zldI lv 3 (fun x => Y29 d Q 42 lv (.int x :: st) σ) := yX_at (.iload_n 3, 1, 0, 0, 0, 0, []) rfl
theorem g29_42 {j : Int32} {c : Nat} : Y29 d Q 42 lv (.int j :: .ref c :: st) σ ↔ (zK c = 100 ∧ vp_in j (zLn c)) ∧ Y29 d Q 43 lv (.int (σ.1 c j.toNatClampNeg) :: st) σ := yX_at (.iaload, 1, 0, 0, 0, 0, []) rfl
theorem g29_43  : Y29 d Q 43 lv st σ ↔ Y29 d Q 44 lv (.int 1 :: st) σ := yX_at (.iconst 1, 1, 0, 0, 0, 0, []) rfl
theorem g29_44 {x y : Int32} : Y29 d Q 44 lv (.int y :: .int x :: st) σ ↔ (¬ x = y → Y29 d Q 84 lv st σ) ∧ (x = y → Y29 d Q 47 lv st σ) := yX_at (.if_icmp .ne 40, 3, 84, 0, 0, 0, []) rfl
theorem g29_47  : Y29 d Q 47 lv st σ ↔ zldR lv 1 (fun x => Y29 d Q 48 lv (.ref x :: st) σ) := yX_at (.aload_n 1, 1, 0, 0, 0, 0, []) rfl
theorem g29_48 {c : Nat} : Y29 d Q 48 lv (.ref c :: st) σ ↔ zK c = 5 ∧ Y29 d Q 51 lv (zfv σ c 9 :: st) σ := yX_at (.getfield 83, 3, 5, 9, 53, 0, []) rfl
theorem g29_51  : Y29 d Q 51 lv st σ ↔ zldI lv 3 (fun x => Y29 d Q 52 lv (.int x :: st) σ) := yX_at (.iload_n 3, 1, 0, 0, 0, 0, []) rfl
theorem g29_52 {j : Int32} {c : Nat} : Y29 d Q 52 lv (.int j :: .ref c :: st) σ ↔ (zK c = 100 ∧ vp_in j (zLn c)) ∧ Y29 d Q 53 lv (.int (σ.1 c j.toNatClampNeg) :: st) σ := yX_at (.iaload, 1, 0, 0, 0, 0, []) rfl
theorem g29_53  : Y29 d Q 53 lv st σ ↔ zldR lv 0 (fun x => Y29 d Q 54 lv (.ref x :: st) σ) := yX_at (.aload_n 0, 1, 0, 0, 0, 0, []) rfl
theorem g29_54 {c : Nat} : Y29 d Q 54 lv (.ref c :: st) σ ↔ zK c = 2 ∧ Y29 d Q 57 lv (zfv σ c 0 :: st) σ := yX_at (.getfield 36, 3, 2, 0, 34, 0, []) rfl
theorem g29_57 {x y : Int32} : Y29 d Q 57 lv (.int y :: .int x :: st) σ ↔ (¬ x = y → Y29 d Q 84 lv st σ) ∧ (x = y → Y29 d Q 60 lv st σ) := yX_at (.if_icmp .ne 27, 3, 84, 0, 0, 0, []) rfl
theorem g29_60  : Y29 d Q 60 lv st σ ↔ zldR lv 0 (fun x => Y29 d Q 61 lv (.ref x :: st) σ) := yX_at (.aload_n 0, 1, 0, 0, 0, 0, []) rfl
theorem g29_61  : Y29 d Q 61 lv st σ ↔ zldI lv 3 (fun x => Y29 d Q 62 lv (.int x :: st) σ) := yX_at (.iload_n 3, 1, 0, 0, 0, 0, []) rfl
theorem g29_62  : Y29 d Q 62 lv st σ ↔ Y29 d Q 63 lv (.int 3 :: st) σ := yX_at (.iconst 3, 1, 0, 0, 0, 0, []) rfl
theorem g29_63 {v0 v1 : Value} {c : Nat} : Y29 d Q 63 lv (v1 :: v0 :: .ref c :: st) σ ↔ (zrcv 2 c ∧ zrm st) ∧ ∃ rv σ', yE d 25 [.ref c, v0, v1] σ rv σ' ∧ Y29 d Q 66 lv (rv.toList ++ st) σ' := yX_at (.invokevirtual 63, 3, 25, 2, 48, 0, []) rfl
theorem g29_66  : Y29 d Q 66 lv st σ ↔ zldR lv 0 (fun x => Y29 d Q 67 lv (.ref x :: st) σ) := yX_at (.aload_n 0, 1, 0, 0, 0, 0, []) rfl
theorem g29_67  : Y29 d Q 67 lv st σ ↔ zdup st (fun r => Y29 d Q 68 lv r σ) := yX_at (.dup, 1, 0, 0, 0, 0, []) rfl
theorem g29_68 {c : Nat} : Y29 d Q 68 lv (.ref c :: st) σ ↔ zK c = 2 ∧ Y29 d Q 71 lv (zfv σ c 2 :: st) σ := yX_at (.getfield 43, 3, 2, 2, 36, 0, []) rfl
theorem g29_71  : Y29 d Q 71 lv st σ ↔ zldR lv 1 (fun x => Y29 d Q 72 lv (.ref x :: st) σ) := yX_at (.aload_n 1, 1, 0, 0, 0, 0, []) rfl
theorem g29_72 {c : Nat} : Y29 d Q 72 lv (.ref c :: st) σ ↔ zK c = 5 ∧ Y29 d Q 75 lv (zfv σ c 8 :: st) σ := yX_at (.getfield 86, 3, 5, 8, 54, 0, []) rfl
theorem g29_75  : Y29 d Q 75 lv st σ ↔ zldI lv 3 (fun x => Y29 d Q 76 lv (.int x :: st) σ) := yX_at (.iload_n 3, 1, 0, 0, 0, 0, []) rfl
theorem g29_76 {j : Int32} {c : Nat} : Y29 d Q 76 lv (.int j :: .ref c :: st) σ ↔ (zK c = 100 ∧ vp_in j (zLn c)) ∧ Y29 d Q 77 lv (.int (σ.1 c j.toNatClampNeg) :: st) σ := yX_at (.iaload, 1, 0, 0, 0, 0, []) rfl
theorem g29_77 {x y : Int32} : Y29 d Q 77 lv (.int y :: .int x :: st) σ ↔ Y29 d Q 78 lv (.int (x + y) :: st) σ := yX_at (.iadd, 1, 0, 0, 0, 0, []) rfl
theorem g29_78 {x : Int32} {c : Nat} : Y29 d Q 78 lv (.int x :: .ref c :: st) σ ↔ zK c = 2 ∧ Y29 d Q 81 lv st (zwI σ c 2 x) := yX_at (.putfield 43, 3, 2, 2, 36, 0, []) rfl
theorem g29_81  : Y29 d Q 81 lv st σ ↔ Y29 d Q 113 lv st σ := yX_at (.goto 32, 3, 113, 0, 0, 0, []) rfl
theorem g29_84  : Y29 d Q 84 lv st σ ↔ zldR lv 0 (fun x => Y29 d Q 85 lv (.ref x :: st) σ) := yX_at (.aload_n 0, 1, 0, 0, 0, 0, []) rfl
theorem g29_85 {c : Nat} : Y29 d Q 85 lv (.ref c :: st) σ ↔ zK c = 2 ∧ Y29 d Q 88 lv (zfv σ c 3 :: st) σ := yX_at (.getfield 9, 3, 2, 3, 38, 0, []) rfl
theorem g29_88  : Y29 d Q 88 lv st σ ↔ zldI lv 3 (fun x => Y29 d Q 89 lv (.int x :: st) σ) := yX_at (.iload_n 3, 1, 0, 0, 0, 0, []) rfl
theorem g29_89 {j : Int32} {c : Nat} : Y29 d Q 89 lv (.int j :: .ref c :: st) σ ↔ (zK c = 100 ∧ vp_in j (zLn c)) ∧ Y29 d Q 90 lv (.int (σ.1 c j.toNatClampNeg) :: st) σ := yX_at (.iaload, 1, 0, 0, 0, 0, []) rfl
theorem g29_90 {x : Int32} : Y29 d Q 90 lv (.int x :: st) σ ↔ (¬ x = 0 → Y29 d Q 113 lv st σ) ∧ (x = 0 → Y29 d Q 93 lv st σ) := yX_at (.ifCond .ne 23, 3, 113, 0, 0, 0, []) rfl
theorem g29_93  : Y29 d Q 93 lv st σ ↔ zldR lv 1 (fun x => Y29 d Q 94 lv (.ref x :: st) σ) := yX_at (.aload_n 1, 1, 0, 0, 0, 0, []) rfl
theorem g29_94 {c : Nat} : Y29 d Q 94 lv (.ref c :: st) σ ↔ zK c = 5 ∧ Y29 d Q 97 lv (zfv σ c 6 :: st) σ := yX_at (.getfield 89, 3, 5, 6, 55, 0, []) rfl
theorem g29_97  : Y29 d Q 97 lv st σ ↔ zldI lv 3 (fun x => Y29 d Q 98 lv (.int x :: st) σ) := yX_at (.iload_n 3, 1, 0, 0, 0, 0, []) rfl
theorem g29_98 {j : Int32} {c : Nat} : Y29 d Q 98 lv (.int j :: .ref c :: st) σ ↔ (zK c = 100 ∧ vp_in j (zLn c)) ∧ Y29 d Q 99 lv (.int (σ.1 c j.toNatClampNeg) :: st) σ := yX_at (.iaload, 1, 0, 0, 0, 0, []) rfl
theorem g29_99  : Y29 d Q 99 lv st σ ↔ zldR lv 0 (fun x => Y29 d Q 100 lv (.ref x :: st) σ) := yX_at (.aload_n 0, 1, 0, 0, 0, 0, []) rfl
theorem g29_100 {c : Nat} : Y29 d Q 100 lv (.ref c :: st) σ ↔ zK c = 2 ∧ Y29 d Q 103 lv (zfv σ c 0 :: st) σ := yX_at (.getfield 36, 3, 2, 0, 34, 0, []) rfl
theorem g29_103 {x y : Int32} : Y29 d Q 103 lv (.int y :: .int x :: st) σ ↔ (¬ x = y → Y29 d Q 113 lv st σ) ∧ (x = y → Y29 d Q 106 lv st σ) := yX_at (.if_icmp .ne 10, 3, 113, 0, 0, 0, []) rfl
theorem g29_106  : Y29 d Q 106 lv st σ ↔ zldR lv 0 (fun x => Y29 d Q 107 lv (.ref x :: st) σ) := yX_at (.aload_n 0, 1, 0, 0, 0, 0, []) rfl
theorem g29_107 {c : Nat} : Y29 d Q 107 lv (.ref c :: st) σ ↔ zK c = 2 ∧ Y29 d Q 110 lv (zfv σ c 3 :: st) σ := yX_at (.getfield 9, 3, 2, 3, 38, 0, []) rfl
theorem g29_110  : Y29 d Q 110 lv st σ ↔ zldI lv 3 (fun x => Y29 d Q 111 lv (.int x :: st) σ) := yX_at (.iload_n 3, 1, 0, 0, 0, 0, []) rfl
theorem g29_111  : Y29 d Q 111 lv st σ ↔ Y29 d Q 112 lv (.int 3 :: st) σ := yX_at (.iconst 3, 1, 0, 0, 0, 0, []) rfl
theorem g29_112 {x j : Int32} {c : Nat} : Y29 d Q 112 lv (.int x :: .int j :: .ref c :: st) σ ↔ (zK c = 100 ∧ vp_in j (zLn c)) ∧ Y29 d Q 113 lv st (zwI σ c j.toNatClampNeg x) := yX_at (.iastore, 1, 0, 0, 0, 0, []) rfl
theorem g29_113  : Y29 d Q 113 lv st σ ↔ zldI lv 3 (fun x => Y29 d Q 116 (zs1 3 (.int (x + 1)) lv) st σ) := yX_at (.iinc 3 1, 3, 0, 0, 0, 0, []) rfl
theorem g29_116  : Y29 d Q 116 lv st σ ↔ Y29 d Q 29 lv st σ := yX_at (.goto (-87), 3, 29, 0, 0, 0, []) rfl
theorem g29_119  : Y29 d Q 119 lv st σ ↔ zldR lv 0 (fun x => Y29 d Q 120 lv (.ref x :: st) σ) := yX_at (.aload_n 0, 1, 0, 0, 0, 0, []) rfl
theorem g29_120  : Y29 d Q 120 lv st σ ↔ Y29 d Q 121 lv (.int 0 :: st) σ := yX_at (.iconst 0, 1, 0, 0, 0, 0, []) rfl
theorem g29_121 {x : Int32} {c : Nat} : Y29 d Q 121 lv (.int x :: .ref c :: st) σ ↔ zK c = 2 ∧ Y29 d Q 124 lv st (zwI σ c 8 x) := yX_at (.putfield 46, 3, 2, 8, 37, 0, []) rfl
theorem g29_124  : Y29 d Q 124 lv st σ ↔ zldR lv 0 (fun x => Y29 d Q 125 lv (.ref x :: st) σ) := yX_at (.aload_n 0, 1, 0, 0, 0, 0, []) rfl
theorem g29_125  : Y29 d Q 125 lv st σ ↔ zdup st (fun r => Y29 d Q 126 lv r σ) := yX_at (.dup, 1, 0, 0, 0, 0, []) rfl
theorem g29_126 {c : Nat} : Y29 d Q 126 lv (.ref c :: st) σ ↔ zK c = 2 ∧ Y29 d Q 129 lv (zfv σ c 0 :: st) σ := yX_at (.getfield 36, 3, 2, 0, 34, 0, []) rfl
theorem g29_129  : Y29 d Q 129 lv st σ ↔ Y29 d Q 130 lv (.int 1 :: st) σ := yX_at (.iconst 1, 1, 0, 0, 0, 0, []) rfl
theorem g29_130 {x y : Int32} : Y29 d Q 130 lv (.int y :: .int x :: st) σ ↔ Y29 d Q 131 lv (.int (x + y) :: st) σ := yX_at (.iadd, 1, 0, 0, 0, 0, []) rfl
theorem g29_131 {x : Int32} {c : Nat} : Y29 d Q 131 lv (.int x :: .ref c :: st) σ ↔ zK c = 2 ∧ Y29 d Q 134 lv st (zwI σ c 0 x) := yX_at (.putfield 36, 3, 2, 0, 34, 0, []) rfl
theorem g29_134  : Y29 d Q 134 lv st σ ↔ zldI lv 2 (fun x => Y29 d Q 135 lv (.int x :: st) σ) := yX_at (.iload_n 2, 1, 0, 0, 0, 0, []) rfl
theorem g29_135 {x : Int32} : Y29 d Q 135 lv [.int x] σ ↔ Q (some (.int x)) σ := yX_at (.ireturn, 1, 0, 0, 0, 0, []) rfl
end G29
def Y30 (d : Nat) (Q : Option Value → zSt → Prop) (pc : Nat) (lv : zLv) (st : List Value) (σ : zSt) : Prop := yX (yE d) ySn zt30 Q pc lv st σ
theorem C30 {d : Nat} {as : List Value} {σ : zSt} {P : Option Value → zSt → Prop} (hl : (lg_sl as).length ≤ 6) (h : Y30 d P 0 (lv_args 0 as) [] σ) : yC (d + 1) 30 as σ P := yC_of (by decide) hl h
section G30
variable {d : Nat} {Q : Option Value → zSt → Prop} {lv : zLv} {st : List Value} {σ : zSt}
theorem g30_0  : Y30 d Q 0 lv st σ ↔ Y30 d Q 1 lv (.int 0 :: st) σ := yX_at (.iconst 0, 1, 0, 0, 0, 0, []) rfl
theorem g30_1 {x : Int32} : Y30 d Q 1 lv (.int x :: st) σ ↔ Y30 d Q 2 (zs1 3 (.int x) lv) st σ := yX_at (.istore_n 3, 1, 0, 0, 0, 0, []) rfl
theorem g30_2  : Y30 d Q 2 lv st σ ↔ Y30 d Q 3 lv (.int 0 :: st) σ := yX_at (.iconst 0, 1, 0, 0, 0, 0, []) rfl
theorem g30_3 {x : Int32} : Y30 d Q 3 lv (.int x :: st) σ ↔ Y30 d Q 5 (zs1 4 (.int x) lv) st σ := yX_at (.istore 4, 2, 0, 0, 0, 0, []) rfl
theorem g30_5  : Y30 d Q 5 lv st σ ↔ zldI lv 4 (fun x => Y30 d Q 7 lv (.int x :: st) σ) := yX_at (.iload 4, 2, 0, 0, 0, 0, []) rfl
theorem g30_7  : Y30 d Q 7 lv st σ ↔ zldR lv 1 (fun x => Y30 d Q 8 lv (.ref x :: st) σ) := yX_at (.aload_n 1, 1, 0, 0, 0, 0, []) rfl
theorem g30_8 {c : Nat} : Y30 d Q 8 lv (.ref c :: st) σ ↔ zK c = 5 ∧ Y30 d Q 11 lv (zfv σ c 2 :: st) σ := yX_at (.getfield 92, 3, 5, 2, 56, 0, []) rfl
theorem g30_11  : Y30 d Q 11 lv st σ ↔ zldI lv 2 (fun x => Y30 d Q 12 lv (.int x :: st) σ) := yX_at (.iload_n 2, 1, 0, 0, 0, 0, []) rfl
theorem g30_12 {j : Int32} {c : Nat} : Y30 d Q 12 lv (.int j :: .ref c :: st) σ ↔ (zK c = 100 ∧ vp_in j (zLn c)) ∧ Y30 d Q 13 lv (.int (σ.1 c j.toNatClampNeg) :: st) σ := yX_at (.iaload, 1, 0, 0, 0, 0, []) rfl
theorem g30_13 {x y : Int32} : Y30 d Q 13 lv (.int y :: .int x :: st) σ ↔ (y ≤ x → Y30 d Q 85 lv st σ) ∧ (¬ y ≤ x → Y30 d Q 16 lv st σ) := yX_at (.if_icmp .ge 72, 3, 85, 0, 0, 0, []) rfl
theorem g30_16  : Y30 d Q 16 lv st σ ↔ zldR lv 0 (fun x => Y30 d Q 17 lv (.ref x :: st) σ) := yX_at (.aload_n 0, 1, 0, 0, 0, 0, []) rfl
theorem g30_17  : Y30 d Q 17 lv st σ ↔ zldR lv 1 (fun x => Y30 d Q 18 lv (.ref x :: st) σ) := yX_at (.aload_n 1, 1, 0, 0, 0, 0, []) rfl
theorem g30_18  : Y30 d Q 18 lv st σ ↔ zldI lv 2 (fun x => Y30 d Q 19 lv (.int x :: st) σ) := yX_at (.iload_n 2, 1, 0, 0, 0, 0, []) rfl
theorem g30_19 {v0 v1 : Value} {c : Nat} : Y30 d Q 19 lv (v1 :: v0 :: .ref c :: st) σ ↔ (zrcv 2 c ∧ zrm st) ∧ ∃ rv σ', yE d 31 [.ref c, v0, v1] σ rv σ' ∧ Y30 d Q 22 lv (rv.toList ++ st) σ' := yX_at (.invokevirtual 95, 3, 31, 2, 57, 0, []) rfl
theorem g30_22 {x : Int32} : Y30 d Q 22 lv (.int x :: st) σ ↔ Y30 d Q 24 (zs1 5 (.int x) lv) st σ := yX_at (.istore 5, 2, 0, 0, 0, 0, []) rfl
theorem g30_24  : Y30 d Q 24 lv st σ ↔ zldI lv 5 (fun x => Y30 d Q 26 lv (.int x :: st) σ) := yX_at (.iload 5, 2, 0, 0, 0, 0, []) rfl
theorem g30_26  : Y30 d Q 26 lv st σ ↔ Y30 d Q 27 lv (.int (-1) :: st) σ := by
  rw [show (-1 : Int32) = Int32.ofInt (-1) from by decide]
  exact yX_at (.iconst (-1), 1, 0, 0, 0, 0, []) rfl
theorem g30_27 {x y : Int32} : Y30 d Q 27 lv (.int y :: .int x :: st) σ ↔ (¬ x = y → Y30 d Q 32 lv st σ) ∧ (x = y → Y30 d Q 30 lv st σ) := yX_at (.if_icmp .ne 5, 3, 32, 0, 0, 0, []) rfl
theorem g30_30  : Y30 d Q 30 lv st σ ↔ zldI lv 3 (fun x => Y30 d Q 31 lv (.int x :: st) σ) := yX_at (.iload_n 3, 1, 0, 0, 0, 0, []) rfl
theorem g30_31 {x : Int32} : Y30 d Q 31 lv [.int x] σ ↔ Q (some (.int x)) σ := yX_at (.ireturn, 1, 0, 0, 0, 0, []) rfl
theorem g30_32  : Y30 d Q 32 lv st σ ↔ zldR lv 0 (fun x => Y30 d Q 33 lv (.ref x :: st) σ) := yX_at (.aload_n 0, 1, 0, 0, 0, 0, []) rfl
theorem g30_33 {c : Nat} : Y30 d Q 33 lv (.ref c :: st) σ ↔ zK c = 2 ∧ Y30 d Q 36 lv (zfv σ c 4 :: st) σ := yX_at (.getfield 15, 3, 2, 4, 40, 0, []) rfl
theorem g30_36  : Y30 d Q 36 lv st σ ↔ zldI lv 5 (fun x => Y30 d Q 38 lv (.int x :: st) σ) := yX_at (.iload 5, 2, 0, 0, 0, 0, []) rfl
theorem g30_38  : Y30 d Q 38 lv st σ ↔ zdup2 st (fun r => Y30 d Q 39 lv r σ) := yX_at (.dup2, 1, 0, 0, 0, 0, []) rfl
theorem g30_39 {j : Int32} {c : Nat} : Y30 d Q 39 lv (.int j :: .ref c :: st) σ ↔ (zK c = 100 ∧ vp_in j (zLn c)) ∧ Y30 d Q 40 lv (.int (σ.1 c j.toNatClampNeg) :: st) σ := yX_at (.iaload, 1, 0, 0, 0, 0, []) rfl
theorem g30_40  : Y30 d Q 40 lv st σ ↔ Y30 d Q 41 lv (.int 1 :: st) σ := yX_at (.iconst 1, 1, 0, 0, 0, 0, []) rfl
theorem g30_41 {x y : Int32} : Y30 d Q 41 lv (.int y :: .int x :: st) σ ↔ Y30 d Q 42 lv (.int (x - y) :: st) σ := yX_at (.isub, 1, 0, 0, 0, 0, []) rfl
theorem g30_42 {x j : Int32} {c : Nat} : Y30 d Q 42 lv (.int x :: .int j :: .ref c :: st) σ ↔ (zK c = 100 ∧ vp_in j (zLn c)) ∧ Y30 d Q 43 lv st (zwI σ c j.toNatClampNeg x) := yX_at (.iastore, 1, 0, 0, 0, 0, []) rfl
theorem g30_43  : Y30 d Q 43 lv st σ ↔ zldR lv 0 (fun x => Y30 d Q 44 lv (.ref x :: st) σ) := yX_at (.aload_n 0, 1, 0, 0, 0, 0, []) rfl
theorem g30_44 {c : Nat} : Y30 d Q 44 lv (.ref c :: st) σ ↔ zK c = 2 ∧ Y30 d Q 47 lv (zfv σ c 4 :: st) σ := yX_at (.getfield 15, 3, 2, 4, 40, 0, []) rfl
theorem g30_47  : Y30 d Q 47 lv st σ ↔ zldI lv 5 (fun x => Y30 d Q 49 lv (.int x :: st) σ) := yX_at (.iload 5, 2, 0, 0, 0, 0, []) rfl
theorem g30_49 {j : Int32} {c : Nat} : Y30 d Q 49 lv (.int j :: .ref c :: st) σ ↔ (zK c = 100 ∧ vp_in j (zLn c)) ∧ Y30 d Q 50 lv (.int (σ.1 c j.toNatClampNeg) :: st) σ := yX_at (.iaload, 1, 0, 0, 0, 0, []) rfl
theorem g30_50 {x : Int32} : Y30 d Q 50 lv (.int x :: st) σ ↔ (¬ x = 0 → Y30 d Q 79 lv st σ) ∧ (x = 0 → Y30 d Q 53 lv st σ) := yX_at (.ifCond .ne 29, 3, 79, 0, 0, 0, []) rfl
theorem g30_53  : Y30 d Q 53 lv st σ ↔ zldR lv 0 (fun x => Y30 d Q 54 lv (.ref x :: st) σ) := yX_at (.aload_n 0, 1, 0, 0, 0, 0, []) rfl
theorem g30_54  : Y30 d Q 54 lv st σ ↔ zldI lv 5 (fun x => Y30 d Q 56 lv (.int x :: st) σ) := yX_at (.iload 5, 2, 0, 0, 0, 0, []) rfl
theorem g30_56  : Y30 d Q 56 lv st σ ↔ Y30 d Q 57 lv (.int 2 :: st) σ := yX_at (.iconst 2, 1, 0, 0, 0, 0, []) rfl
theorem g30_57 {v0 v1 : Value} {c : Nat} : Y30 d Q 57 lv (v1 :: v0 :: .ref c :: st) σ ↔ (zrcv 2 c ∧ zrm st) ∧ ∃ rv σ', yE d 25 [.ref c, v0, v1] σ rv σ' ∧ Y30 d Q 60 lv (rv.toList ++ st) σ' := yX_at (.invokevirtual 63, 3, 25, 2, 48, 0, []) rfl
theorem g30_60  : Y30 d Q 60 lv st σ ↔ zldR lv 0 (fun x => Y30 d Q 61 lv (.ref x :: st) σ) := yX_at (.aload_n 0, 1, 0, 0, 0, 0, []) rfl
theorem g30_61  : Y30 d Q 61 lv st σ ↔ zdup st (fun r => Y30 d Q 62 lv r σ) := yX_at (.dup, 1, 0, 0, 0, 0, []) rfl
theorem g30_62 {c : Nat} : Y30 d Q 62 lv (.ref c :: st) σ ↔ zK c = 2 ∧ Y30 d Q 65 lv (zfv σ c 1 :: st) σ := yX_at (.getfield 40, 3, 2, 1, 35, 0, []) rfl
theorem g30_65  : Y30 d Q 65 lv st σ ↔ zldR lv 1 (fun x => Y30 d Q 66 lv (.ref x :: st) σ) := yX_at (.aload_n 1, 1, 0, 0, 0, 0, []) rfl
theorem g30_66 {c : Nat} : Y30 d Q 66 lv (.ref c :: st) σ ↔ zK c = 5 ∧ Y30 d Q 69 lv (zfv σ c 8 :: st) σ := yX_at (.getfield 86, 3, 5, 8, 54, 0, []) rfl
theorem g30_69  : Y30 d Q 69 lv st σ ↔ zldI lv 5 (fun x => Y30 d Q 71 lv (.int x :: st) σ) := yX_at (.iload 5, 2, 0, 0, 0, 0, []) rfl
theorem g30_71 {j : Int32} {c : Nat} : Y30 d Q 71 lv (.int j :: .ref c :: st) σ ↔ (zK c = 100 ∧ vp_in j (zLn c)) ∧ Y30 d Q 72 lv (.int (σ.1 c j.toNatClampNeg) :: st) σ := yX_at (.iaload, 1, 0, 0, 0, 0, []) rfl
theorem g30_72 {x y : Int32} : Y30 d Q 72 lv (.int y :: .int x :: st) σ ↔ Y30 d Q 73 lv (.int (x + y) :: st) σ := yX_at (.iadd, 1, 0, 0, 0, 0, []) rfl
theorem g30_73 {x : Int32} {c : Nat} : Y30 d Q 73 lv (.int x :: .ref c :: st) σ ↔ zK c = 2 ∧ Y30 d Q 76 lv st (zwI σ c 1 x) := yX_at (.putfield 40, 3, 2, 1, 35, 0, []) rfl
theorem g30_76  : Y30 d Q 76 lv st σ ↔ zldI lv 3 (fun x => Y30 d Q 79 (zs1 3 (.int (x + 1)) lv) st σ) := yX_at (.iinc 3 1, 3, 0, 0, 0, 0, []) rfl
theorem g30_79  : Y30 d Q 79 lv st σ ↔ zldI lv 4 (fun x => Y30 d Q 82 (zs1 4 (.int (x + 1)) lv) st σ) := yX_at (.iinc 4 1, 3, 0, 0, 0, 0, []) rfl
theorem g30_82  : Y30 d Q 82 lv st σ ↔ Y30 d Q 5 lv st σ := yX_at (.goto (-77), 3, 5, 0, 0, 0, []) rfl
theorem g30_85  : Y30 d Q 85 lv st σ ↔ zldI lv 3 (fun x => Y30 d Q 86 lv (.int x :: st) σ) := yX_at (.iload_n 3, 1, 0, 0, 0, 0, []) rfl
theorem g30_86 {x : Int32} : Y30 d Q 86 lv [.int x] σ ↔ Q (some (.int x)) σ := yX_at (.ireturn, 1, 0, 0, 0, 0, []) rfl
end G30
def Y31 (d : Nat) (Q : Option Value → zSt → Prop) (pc : Nat) (lv : zLv) (st : List Value) (σ : zSt) : Prop := yX (yE d) ySn zt31 Q pc lv st σ
theorem C31 {d : Nat} {as : List Value} {σ : zSt} {P : Option Value → zSt → Prop} (hl : (lg_sl as).length ≤ 6) (h : Y31 d P 0 (lv_args 0 as) [] σ) : yC (d + 1) 31 as σ P := yC_of (by decide) hl h
section G31
variable {d : Nat} {Q : Option Value → zSt → Prop} {lv : zLv} {st : List Value} {σ : zSt}
theorem g31_0  : Y31 d Q 0 lv st σ ↔ zldR lv 0 (fun x => Y31 d Q 1 lv (.ref x :: st) σ) := yX_at (.aload_n 0, 1, 0, 0, 0, 0, []) rfl
theorem g31_1  : Y31 d Q 1 lv st σ ↔ zldR lv 1 (fun x => Y31 d Q 2 lv (.ref x :: st) σ) := yX_at (.aload_n 1, 1, 0, 0, 0, 0, []) rfl
theorem g31_2 {v0 : Value} {c : Nat} : Y31 d Q 2 lv (v0 :: .ref c :: st) σ ↔ (zrcv 2 c ∧ zrm st) ∧ ∃ rv σ', yE d 32 [.ref c, v0] σ rv σ' ∧ Y31 d Q 5 lv (rv.toList ++ st) σ' := yX_at (.invokevirtual 98, 3, 32, 1, 58, 0, []) rfl
theorem g31_5 {x : Int32} : Y31 d Q 5 lv (.int x :: st) σ ↔ Y31 d Q 6 (zs1 3 (.int x) lv) st σ := yX_at (.istore_n 3, 1, 0, 0, 0, 0, []) rfl
theorem g31_6  : Y31 d Q 6 lv st σ ↔ Y31 d Q 7 lv (.int 0 :: st) σ := yX_at (.iconst 0, 1, 0, 0, 0, 0, []) rfl
theorem g31_7 {x : Int32} : Y31 d Q 7 lv (.int x :: st) σ ↔ Y31 d Q 9 (zs1 4 (.int x) lv) st σ := yX_at (.istore 4, 2, 0, 0, 0, 0, []) rfl
theorem g31_9  : Y31 d Q 9 lv st σ ↔ zldI lv 4 (fun x => Y31 d Q 11 lv (.int x :: st) σ) := yX_at (.iload 4, 2, 0, 0, 0, 0, []) rfl
theorem g31_11  : Y31 d Q 11 lv st σ ↔ zldR lv 0 (fun x => Y31 d Q 12 lv (.ref x :: st) σ) := yX_at (.aload_n 0, 1, 0, 0, 0, 0, []) rfl
theorem g31_12 {c : Nat} : Y31 d Q 12 lv (.ref c :: st) σ ↔ zK c = 2 ∧ Y31 d Q 15 lv (zfv σ c 6 :: st) σ := yX_at (.getfield 21, 3, 2, 6, 42, 0, []) rfl
theorem g31_15  : Y31 d Q 15 lv st σ ↔ zldI lv 2 (fun x => Y31 d Q 16 lv (.int x :: st) σ) := yX_at (.iload_n 2, 1, 0, 0, 0, 0, []) rfl
theorem g31_16 {j : Int32} {c : Nat} : Y31 d Q 16 lv (.int j :: .ref c :: st) σ ↔ (zK c = 100 ∧ vp_in j (zLn c)) ∧ Y31 d Q 17 lv (.int (σ.1 c j.toNatClampNeg) :: st) σ := yX_at (.iaload, 1, 0, 0, 0, 0, []) rfl
theorem g31_17 {x y : Int32} : Y31 d Q 17 lv (.int y :: .int x :: st) σ ↔ (y ≤ x → Y31 d Q 52 lv st σ) ∧ (¬ y ≤ x → Y31 d Q 20 lv st σ) := yX_at (.if_icmp .ge 35, 3, 52, 0, 0, 0, []) rfl
theorem g31_20  : Y31 d Q 20 lv st σ ↔ zldR lv 0 (fun x => Y31 d Q 21 lv (.ref x :: st) σ) := yX_at (.aload_n 0, 1, 0, 0, 0, 0, []) rfl
theorem g31_21  : Y31 d Q 21 lv st σ ↔ zldI lv 2 (fun x => Y31 d Q 22 lv (.int x :: st) σ) := yX_at (.iload_n 2, 1, 0, 0, 0, 0, []) rfl
theorem g31_22  : Y31 d Q 22 lv st σ ↔ zldI lv 4 (fun x => Y31 d Q 24 lv (.int x :: st) σ) := yX_at (.iload 4, 2, 0, 0, 0, 0, []) rfl
theorem g31_24 {v0 v1 : Value} {c : Nat} : Y31 d Q 24 lv (v1 :: v0 :: .ref c :: st) σ ↔ (zrcv 2 c ∧ zrm st) ∧ ∃ rv σ', yE d 21 [.ref c, v0, v1] σ rv σ' ∧ Y31 d Q 27 lv (rv.toList ++ st) σ' := yX_at (.invokevirtual 55, 3, 21, 2, 46, 0, []) rfl
theorem g31_27 {x : Int32} : Y31 d Q 27 lv (.int x :: st) σ ↔ Y31 d Q 29 (zs1 5 (.int x) lv) st σ := yX_at (.istore 5, 2, 0, 0, 0, 0, []) rfl
theorem g31_29  : Y31 d Q 29 lv st σ ↔ zldR lv 1 (fun x => Y31 d Q 30 lv (.ref x :: st) σ) := yX_at (.aload_n 1, 1, 0, 0, 0, 0, []) rfl
theorem g31_30 {c : Nat} : Y31 d Q 30 lv (.ref c :: st) σ ↔ zK c = 5 ∧ Y31 d Q 33 lv (zfv σ c 11 :: st) σ := yX_at (.getfield 102, 3, 5, 11, 59, 0, []) rfl
theorem g31_33  : Y31 d Q 33 lv st σ ↔ zldI lv 5 (fun x => Y31 d Q 35 lv (.int x :: st) σ) := yX_at (.iload 5, 2, 0, 0, 0, 0, []) rfl
theorem g31_35 {j : Int32} {c : Nat} : Y31 d Q 35 lv (.int j :: .ref c :: st) σ ↔ (zK c = 100 ∧ vp_in j (zLn c)) ∧ Y31 d Q 36 lv (.int (σ.1 c j.toNatClampNeg) :: st) σ := yX_at (.iaload, 1, 0, 0, 0, 0, []) rfl
theorem g31_36  : Y31 d Q 36 lv st σ ↔ zldI lv 3 (fun x => Y31 d Q 37 lv (.int x :: st) σ) := yX_at (.iload_n 3, 1, 0, 0, 0, 0, []) rfl
theorem g31_37  : Y31 d Q 37 lv st σ ↔ Y31 d Q 38 lv (.int (-1) :: st) σ := by
  rw [show (-1 : Int32) = Int32.ofInt (-1) from by decide]
  exact yX_at (.iconst (-1), 1, 0, 0, 0, 0, []) rfl
theorem g31_38 {x y : Int32} : Y31 d Q 38 lv (.int y :: .int x :: st) σ ↔ Y31 d Q 39 lv (.int (x ^^^ y) :: st) σ := yX_at (.ixor, 1, 0, 0, 0, 0, []) rfl
theorem g31_39 {x y : Int32} : Y31 d Q 39 lv (.int y :: .int x :: st) σ ↔ Y31 d Q 40 lv (.int (x &&& y) :: st) σ := yX_at (.iand, 1, 0, 0, 0, 0, []) rfl
theorem g31_40 {x : Int32} : Y31 d Q 40 lv (.int x :: st) σ ↔ (¬ x = 0 → Y31 d Q 46 lv st σ) ∧ (x = 0 → Y31 d Q 43 lv st σ) := yX_at (.ifCond .ne 6, 3, 46, 0, 0, 0, []) rfl
theorem g31_43  : Y31 d Q 43 lv st σ ↔ zldI lv 5 (fun x => Y31 d Q 45 lv (.int x :: st) σ) := yX_at (.iload 5, 2, 0, 0, 0, 0, []) rfl
theorem g31_45 {x : Int32} : Y31 d Q 45 lv [.int x] σ ↔ Q (some (.int x)) σ := yX_at (.ireturn, 1, 0, 0, 0, 0, []) rfl
theorem g31_46  : Y31 d Q 46 lv st σ ↔ zldI lv 4 (fun x => Y31 d Q 49 (zs1 4 (.int (x + 1)) lv) st σ) := yX_at (.iinc 4 1, 3, 0, 0, 0, 0, []) rfl
theorem g31_49  : Y31 d Q 49 lv st σ ↔ Y31 d Q 9 lv st σ := yX_at (.goto (-40), 3, 9, 0, 0, 0, []) rfl
theorem g31_52  : Y31 d Q 52 lv st σ ↔ Y31 d Q 53 lv (.int (-1) :: st) σ := by
  rw [show (-1 : Int32) = Int32.ofInt (-1) from by decide]
  exact yX_at (.iconst (-1), 1, 0, 0, 0, 0, []) rfl
theorem g31_53 {x : Int32} : Y31 d Q 53 lv [.int x] σ ↔ Q (some (.int x)) σ := yX_at (.ireturn, 1, 0, 0, 0, 0, []) rfl
end G31
def Y32 (d : Nat) (Q : Option Value → zSt → Prop) (pc : Nat) (lv : zLv) (st : List Value) (σ : zSt) : Prop := yX (yE d) ySn zt32 Q pc lv st σ
theorem C32 {d : Nat} {as : List Value} {σ : zSt} {P : Option Value → zSt → Prop} (hl : (lg_sl as).length ≤ 4) (h : Y32 d P 0 (lv_args 0 as) [] σ) : yC (d + 1) 32 as σ P := yC_of (by decide) hl h
section G32
variable {d : Nat} {Q : Option Value → zSt → Prop} {lv : zLv} {st : List Value} {σ : zSt}
theorem g32_0  : Y32 d Q 0 lv st σ ↔ Y32 d Q 1 lv (.int 0 :: st) σ := yX_at (.iconst 0, 1, 0, 0, 0, 0, []) rfl
theorem g32_1 {x : Int32} : Y32 d Q 1 lv (.int x :: st) σ ↔ Y32 d Q 2 (zs1 2 (.int x) lv) st σ := yX_at (.istore_n 2, 1, 0, 0, 0, 0, []) rfl
theorem g32_2  : Y32 d Q 2 lv st σ ↔ Y32 d Q 3 lv (.int 0 :: st) σ := yX_at (.iconst 0, 1, 0, 0, 0, 0, []) rfl
theorem g32_3 {x : Int32} : Y32 d Q 3 lv (.int x :: st) σ ↔ Y32 d Q 4 (zs1 3 (.int x) lv) st σ := yX_at (.istore_n 3, 1, 0, 0, 0, 0, []) rfl
theorem g32_4  : Y32 d Q 4 lv st σ ↔ zldI lv 3 (fun x => Y32 d Q 5 lv (.int x :: st) σ) := yX_at (.iload_n 3, 1, 0, 0, 0, 0, []) rfl
theorem g32_5  : Y32 d Q 5 lv st σ ↔ zldR lv 1 (fun x => Y32 d Q 6 lv (.ref x :: st) σ) := yX_at (.aload_n 1, 1, 0, 0, 0, 0, []) rfl
theorem g32_6 {c : Nat} : Y32 d Q 6 lv (.ref c :: st) σ ↔ zK c = 5 ∧ Y32 d Q 9 lv (zfv σ c 4 :: st) σ := yX_at (.getfield 80, 3, 5, 4, 52, 0, []) rfl
theorem g32_9 {x y : Int32} : Y32 d Q 9 lv (.int y :: .int x :: st) σ ↔ (y ≤ x → Y32 d Q 34 lv st σ) ∧ (¬ y ≤ x → Y32 d Q 12 lv st σ) := yX_at (.if_icmp .ge 25, 3, 34, 0, 0, 0, []) rfl
theorem g32_12  : Y32 d Q 12 lv st σ ↔ zldR lv 0 (fun x => Y32 d Q 13 lv (.ref x :: st) σ) := yX_at (.aload_n 0, 1, 0, 0, 0, 0, []) rfl
theorem g32_13 {c : Nat} : Y32 d Q 13 lv (.ref c :: st) σ ↔ zK c = 2 ∧ Y32 d Q 16 lv (zfv σ c 3 :: st) σ := yX_at (.getfield 9, 3, 2, 3, 38, 0, []) rfl
theorem g32_16  : Y32 d Q 16 lv st σ ↔ zldI lv 3 (fun x => Y32 d Q 17 lv (.int x :: st) σ) := yX_at (.iload_n 3, 1, 0, 0, 0, 0, []) rfl
theorem g32_17 {j : Int32} {c : Nat} : Y32 d Q 17 lv (.int j :: .ref c :: st) σ ↔ (zK c = 100 ∧ vp_in j (zLn c)) ∧ Y32 d Q 18 lv (.int (σ.1 c j.toNatClampNeg) :: st) σ := yX_at (.iaload, 1, 0, 0, 0, 0, []) rfl
theorem g32_18  : Y32 d Q 18 lv st σ ↔ Y32 d Q 19 lv (.int 2 :: st) σ := yX_at (.iconst 2, 1, 0, 0, 0, 0, []) rfl
theorem g32_19 {x y : Int32} : Y32 d Q 19 lv (.int y :: .int x :: st) σ ↔ (¬ x = y → Y32 d Q 28 lv st σ) ∧ (x = y → Y32 d Q 22 lv st σ) := yX_at (.if_icmp .ne 9, 3, 28, 0, 0, 0, []) rfl
theorem g32_22  : Y32 d Q 22 lv st σ ↔ zldI lv 2 (fun x => Y32 d Q 23 lv (.int x :: st) σ) := yX_at (.iload_n 2, 1, 0, 0, 0, 0, []) rfl
theorem g32_23  : Y32 d Q 23 lv st σ ↔ Y32 d Q 24 lv (.int 1 :: st) σ := yX_at (.iconst 1, 1, 0, 0, 0, 0, []) rfl
theorem g32_24  : Y32 d Q 24 lv st σ ↔ zldI lv 3 (fun x => Y32 d Q 25 lv (.int x :: st) σ) := yX_at (.iload_n 3, 1, 0, 0, 0, 0, []) rfl
theorem g32_25 {x y : Int32} : Y32 d Q 25 lv (.int y :: .int x :: st) σ ↔ Y32 d Q 26 lv (.int (x <<< (y &&& 31)) :: st) σ := yX_at (.ishl, 1, 0, 0, 0, 0, []) rfl
theorem g32_26 {x y : Int32} : Y32 d Q 26 lv (.int y :: .int x :: st) σ ↔ Y32 d Q 27 lv (.int (x ||| y) :: st) σ := yX_at (.ior, 1, 0, 0, 0, 0, []) rfl
theorem g32_27 {x : Int32} : Y32 d Q 27 lv (.int x :: st) σ ↔ Y32 d Q 28 (zs1 2 (.int x) lv) st σ := yX_at (.istore_n 2, 1, 0, 0, 0, 0, []) rfl
theorem g32_28  : Y32 d Q 28 lv st σ ↔ zldI lv 3 (fun x => Y32 d Q 31 (zs1 3 (.int (x + 1)) lv) st σ) := yX_at (.iinc 3 1, 3, 0, 0, 0, 0, []) rfl
theorem g32_31  : Y32 d Q 31 lv st σ ↔ Y32 d Q 4 lv st σ := yX_at (.goto (-27), 3, 4, 0, 0, 0, []) rfl
theorem g32_34  : Y32 d Q 34 lv st σ ↔ zldI lv 2 (fun x => Y32 d Q 35 lv (.int x :: st) σ) := yX_at (.iload_n 2, 1, 0, 0, 0, 0, []) rfl
theorem g32_35 {x : Int32} : Y32 d Q 35 lv [.int x] σ ↔ Q (some (.int x)) σ := yX_at (.ireturn, 1, 0, 0, 0, 0, []) rfl
end G32
def Y33 (d : Nat) (Q : Option Value → zSt → Prop) (pc : Nat) (lv : zLv) (st : List Value) (σ : zSt) : Prop := yX (yE d) ySn zt33 Q pc lv st σ
theorem C33 {d : Nat} {as : List Value} {σ : zSt} {P : Option Value → zSt → Prop} (hl : (lg_sl as).length ≤ 7) (h : Y33 d P 0 (lv_args 0 as) [] σ) : yC (d + 1) 33 as σ P := yC_of (by decide) hl h
section G33
variable {d : Nat} {Q : Option Value → zSt → Prop} {lv : zLv} {st : List Value} {σ : zSt}
theorem g33_0  : Y33 d Q 0 lv st σ ↔ zldI lv 2 (fun x => Y33 d Q 1 lv (.int x :: st) σ) := yX_at (.iload_n 2, 1, 0, 0, 0, 0, []) rfl
theorem g33_1 {x : Int32} : Y33 d Q 1 lv (.int x :: st) σ ↔ Y33 d Q 2 (zs1 3 (.int x) lv) st σ := yX_at (.istore_n 3, 1, 0, 0, 0, 0, []) rfl
theorem g33_2  : Y33 d Q 2 lv st σ ↔ Y33 d Q 3 lv (.int 0 :: st) σ := yX_at (.iconst 0, 1, 0, 0, 0, 0, []) rfl
theorem g33_3 {x : Int32} : Y33 d Q 3 lv (.int x :: st) σ ↔ Y33 d Q 5 (zs1 4 (.int x) lv) st σ := yX_at (.istore 4, 2, 0, 0, 0, 0, []) rfl
theorem g33_5  : Y33 d Q 5 lv st σ ↔ Y33 d Q 6 lv (.int 0 :: st) σ := yX_at (.iconst 0, 1, 0, 0, 0, 0, []) rfl
theorem g33_6 {x : Int32} : Y33 d Q 6 lv (.int x :: st) σ ↔ Y33 d Q 8 (zs1 5 (.int x) lv) st σ := yX_at (.istore 5, 2, 0, 0, 0, 0, []) rfl
theorem g33_8  : Y33 d Q 8 lv st σ ↔ zldI lv 5 (fun x => Y33 d Q 10 lv (.int x :: st) σ) := yX_at (.iload 5, 2, 0, 0, 0, 0, []) rfl
theorem g33_10  : Y33 d Q 10 lv st σ ↔ zldR lv 1 (fun x => Y33 d Q 11 lv (.ref x :: st) σ) := yX_at (.aload_n 1, 1, 0, 0, 0, 0, []) rfl
theorem g33_11 {c : Nat} : Y33 d Q 11 lv (.ref c :: st) σ ↔ zK c = 5 ∧ Y33 d Q 14 lv (zfv σ c 4 :: st) σ := yX_at (.getfield 15, 3, 5, 4, 60, 0, []) rfl
theorem g33_14 {x y : Int32} : Y33 d Q 14 lv (.int y :: .int x :: st) σ ↔ (y ≤ x → Y33 d Q 58 lv st σ) ∧ (¬ y ≤ x → Y33 d Q 17 lv st σ) := yX_at (.if_icmp .ge 44, 3, 58, 0, 0, 0, []) rfl
theorem g33_17  : Y33 d Q 17 lv st σ ↔ zldR lv 1 (fun x => Y33 d Q 18 lv (.ref x :: st) σ) := yX_at (.aload_n 1, 1, 0, 0, 0, 0, []) rfl
theorem g33_18  : Y33 d Q 18 lv st σ ↔ zldI lv 3 (fun x => Y33 d Q 19 lv (.int x :: st) σ) := yX_at (.iload_n 3, 1, 0, 0, 0, 0, []) rfl
theorem g33_19 {v0 v1 : Value} : Y33 d Q 19 lv (v1 :: v0 :: st) σ ↔ zrm st ∧ ∃ rv σ', yE d 34 [v0, v1] σ rv σ' ∧ Y33 d Q 22 lv (rv.toList ++ st) σ' := yX_at (.invokestatic 21, 3, 34, 2, 61, 0, []) rfl
theorem g33_22 {x : Int32} : Y33 d Q 22 lv (.int x :: st) σ ↔ Y33 d Q 24 (zs1 6 (.int x) lv) st σ := yX_at (.istore 6, 2, 0, 0, 0, 0, []) rfl
theorem g33_24  : Y33 d Q 24 lv st σ ↔ zldI lv 6 (fun x => Y33 d Q 26 lv (.int x :: st) σ) := yX_at (.iload 6, 2, 0, 0, 0, 0, []) rfl
theorem g33_26  : Y33 d Q 26 lv st σ ↔ Y33 d Q 27 lv (.int (-1) :: st) σ := by
  rw [show (-1 : Int32) = Int32.ofInt (-1) from by decide]
  exact yX_at (.iconst (-1), 1, 0, 0, 0, 0, []) rfl
theorem g33_27 {x y : Int32} : Y33 d Q 27 lv (.int y :: .int x :: st) σ ↔ (¬ x = y → Y33 d Q 33 lv st σ) ∧ (x = y → Y33 d Q 30 lv st σ) := yX_at (.if_icmp .ne 6, 3, 33, 0, 0, 0, []) rfl
theorem g33_30  : Y33 d Q 30 lv st σ ↔ Y33 d Q 58 lv st σ := yX_at (.goto 28, 3, 58, 0, 0, 0, []) rfl
theorem g33_33  : Y33 d Q 33 lv st σ ↔ zldR lv 0 (fun x => Y33 d Q 34 lv (.ref x :: st) σ) := yX_at (.aload_n 0, 1, 0, 0, 0, 0, []) rfl
theorem g33_34 {c : Nat} : Y33 d Q 34 lv (.ref c :: st) σ ↔ zK c = 3 ∧ Y33 d Q 37 lv (zfv σ c 0 :: st) σ := yX_at (.getfield 9, 3, 3, 0, 62, 0, []) rfl
theorem g33_37  : Y33 d Q 37 lv st σ ↔ zldI lv 4 (fun x => Y33 d Q 39 lv (.int x :: st) σ) := yX_at (.iload 4, 2, 0, 0, 0, 0, []) rfl
theorem g33_39  : Y33 d Q 39 lv st σ ↔ zldI lv 6 (fun x => Y33 d Q 41 lv (.int x :: st) σ) := yX_at (.iload 6, 2, 0, 0, 0, 0, []) rfl
theorem g33_41 {x j : Int32} {c : Nat} : Y33 d Q 41 lv (.int x :: .int j :: .ref c :: st) σ ↔ (zK c = 100 ∧ vp_in j (zLn c)) ∧ Y33 d Q 42 lv st (zwI σ c j.toNatClampNeg x) := yX_at (.iastore, 1, 0, 0, 0, 0, []) rfl
theorem g33_42  : Y33 d Q 42 lv st σ ↔ zldI lv 4 (fun x => Y33 d Q 45 (zs1 4 (.int (x + 1)) lv) st σ) := yX_at (.iinc 4 1, 3, 0, 0, 0, 0, []) rfl
theorem g33_45  : Y33 d Q 45 lv st σ ↔ zldI lv 3 (fun x => Y33 d Q 46 lv (.int x :: st) σ) := yX_at (.iload_n 3, 1, 0, 0, 0, 0, []) rfl
theorem g33_46  : Y33 d Q 46 lv st σ ↔ Y33 d Q 47 lv (.int 1 :: st) σ := yX_at (.iconst 1, 1, 0, 0, 0, 0, []) rfl
theorem g33_47  : Y33 d Q 47 lv st σ ↔ zldI lv 6 (fun x => Y33 d Q 49 lv (.int x :: st) σ) := yX_at (.iload 6, 2, 0, 0, 0, 0, []) rfl
theorem g33_49 {x y : Int32} : Y33 d Q 49 lv (.int y :: .int x :: st) σ ↔ Y33 d Q 50 lv (.int (x <<< (y &&& 31)) :: st) σ := yX_at (.ishl, 1, 0, 0, 0, 0, []) rfl
theorem g33_50 {x y : Int32} : Y33 d Q 50 lv (.int y :: .int x :: st) σ ↔ Y33 d Q 51 lv (.int (x ||| y) :: st) σ := yX_at (.ior, 1, 0, 0, 0, 0, []) rfl
theorem g33_51 {x : Int32} : Y33 d Q 51 lv (.int x :: st) σ ↔ Y33 d Q 52 (zs1 3 (.int x) lv) st σ := yX_at (.istore_n 3, 1, 0, 0, 0, 0, []) rfl
theorem g33_52  : Y33 d Q 52 lv st σ ↔ zldI lv 5 (fun x => Y33 d Q 55 (zs1 5 (.int (x + 1)) lv) st σ) := yX_at (.iinc 5 1, 3, 0, 0, 0, 0, []) rfl
theorem g33_55  : Y33 d Q 55 lv st σ ↔ Y33 d Q 8 lv st σ := yX_at (.goto (-47), 3, 8, 0, 0, 0, []) rfl
theorem g33_58  : Y33 d Q 58 lv st σ ↔ zldI lv 3 (fun x => Y33 d Q 59 lv (.int x :: st) σ) := yX_at (.iload_n 3, 1, 0, 0, 0, 0, []) rfl
theorem g33_59  : Y33 d Q 59 lv st σ ↔ Y33 d Q 60 lv (.int 1 :: st) σ := yX_at (.iconst 1, 1, 0, 0, 0, 0, []) rfl
theorem g33_60  : Y33 d Q 60 lv st σ ↔ zldR lv 1 (fun x => Y33 d Q 61 lv (.ref x :: st) σ) := yX_at (.aload_n 1, 1, 0, 0, 0, 0, []) rfl
theorem g33_61 {c : Nat} : Y33 d Q 61 lv (.ref c :: st) σ ↔ zK c = 5 ∧ Y33 d Q 64 lv (zfv σ c 4 :: st) σ := yX_at (.getfield 15, 3, 5, 4, 60, 0, []) rfl
theorem g33_64 {x y : Int32} : Y33 d Q 64 lv (.int y :: .int x :: st) σ ↔ Y33 d Q 65 lv (.int (x <<< (y &&& 31)) :: st) σ := yX_at (.ishl, 1, 0, 0, 0, 0, []) rfl
theorem g33_65  : Y33 d Q 65 lv st σ ↔ Y33 d Q 66 lv (.int 1 :: st) σ := yX_at (.iconst 1, 1, 0, 0, 0, 0, []) rfl
theorem g33_66 {x y : Int32} : Y33 d Q 66 lv (.int y :: .int x :: st) σ ↔ Y33 d Q 67 lv (.int (x - y) :: st) σ := yX_at (.isub, 1, 0, 0, 0, 0, []) rfl
theorem g33_67 {x y : Int32} : Y33 d Q 67 lv (.int y :: .int x :: st) σ ↔ (x = y → Y33 d Q 74 lv st σ) ∧ (¬ x = y → Y33 d Q 70 lv st σ) := yX_at (.if_icmp .eq 7, 3, 74, 0, 0, 0, []) rfl
theorem g33_70  : Y33 d Q 70 lv st σ ↔ Y33 d Q 71 lv (.int 1 :: st) σ := yX_at (.iconst 1, 1, 0, 0, 0, 0, []) rfl
theorem g33_71  : Y33 d Q 71 lv st σ ↔ Y33 d Q 75 lv st σ := yX_at (.goto 4, 3, 75, 0, 0, 0, []) rfl
theorem g33_74  : Y33 d Q 74 lv st σ ↔ Y33 d Q 75 lv (.int 0 :: st) σ := yX_at (.iconst 0, 1, 0, 0, 0, 0, []) rfl
theorem g33_75 {x : Int32} : Y33 d Q 75 lv [.int x] σ ↔ (x = 0 ∨ x = 1) ∧ Q (some (.int x)) σ := yX_at (.ireturn, 1, 1, 0, 0, 0, []) rfl
end G33
def Y34 (d : Nat) (Q : Option Value → zSt → Prop) (pc : Nat) (lv : zLv) (st : List Value) (σ : zSt) : Prop := yX (yE d) ySn zt34 Q pc lv st σ
theorem C34 {d : Nat} {as : List Value} {σ : zSt} {P : Option Value → zSt → Prop} (hl : (lg_sl as).length ≤ 3) (h : Y34 d P 0 (lv_args 0 as) [] σ) : yC (d + 1) 34 as σ P := yC_of (by decide) hl h
section G34
variable {d : Nat} {Q : Option Value → zSt → Prop} {lv : zLv} {st : List Value} {σ : zSt}
theorem g34_0  : Y34 d Q 0 lv st σ ↔ Y34 d Q 1 lv (.int 0 :: st) σ := yX_at (.iconst 0, 1, 0, 0, 0, 0, []) rfl
theorem g34_1 {x : Int32} : Y34 d Q 1 lv (.int x :: st) σ ↔ Y34 d Q 2 (zs1 2 (.int x) lv) st σ := yX_at (.istore_n 2, 1, 0, 0, 0, 0, []) rfl
theorem g34_2  : Y34 d Q 2 lv st σ ↔ zldI lv 2 (fun x => Y34 d Q 3 lv (.int x :: st) σ) := yX_at (.iload_n 2, 1, 0, 0, 0, 0, []) rfl
theorem g34_3  : Y34 d Q 3 lv st σ ↔ zldR lv 0 (fun x => Y34 d Q 4 lv (.ref x :: st) σ) := yX_at (.aload_n 0, 1, 0, 0, 0, 0, []) rfl
theorem g34_4 {c : Nat} : Y34 d Q 4 lv (.ref c :: st) σ ↔ zK c = 5 ∧ Y34 d Q 7 lv (zfv σ c 4 :: st) σ := yX_at (.getfield 15, 3, 5, 4, 60, 0, []) rfl
theorem g34_7 {x y : Int32} : Y34 d Q 7 lv (.int y :: .int x :: st) σ ↔ (y ≤ x → Y34 d Q 39 lv st σ) ∧ (¬ y ≤ x → Y34 d Q 10 lv st σ) := yX_at (.if_icmp .ge 32, 3, 39, 0, 0, 0, []) rfl
theorem g34_10  : Y34 d Q 10 lv st σ ↔ zldI lv 1 (fun x => Y34 d Q 11 lv (.int x :: st) σ) := yX_at (.iload_n 1, 1, 0, 0, 0, 0, []) rfl
theorem g34_11  : Y34 d Q 11 lv st σ ↔ zldI lv 2 (fun x => Y34 d Q 12 lv (.int x :: st) σ) := yX_at (.iload_n 2, 1, 0, 0, 0, 0, []) rfl
theorem g34_12 {x y : Int32} : Y34 d Q 12 lv (.int y :: .int x :: st) σ ↔ Y34 d Q 13 lv (.int (x >>> (y &&& 31)) :: st) σ := yX_at (.ishr, 1, 0, 0, 0, 0, []) rfl
theorem g34_13  : Y34 d Q 13 lv st σ ↔ Y34 d Q 14 lv (.int 1 :: st) σ := yX_at (.iconst 1, 1, 0, 0, 0, 0, []) rfl
theorem g34_14 {x y : Int32} : Y34 d Q 14 lv (.int y :: .int x :: st) σ ↔ Y34 d Q 15 lv (.int (x &&& y) :: st) σ := yX_at (.iand, 1, 0, 0, 0, 0, []) rfl
theorem g34_15 {x : Int32} : Y34 d Q 15 lv (.int x :: st) σ ↔ (¬ x = 0 → Y34 d Q 33 lv st σ) ∧ (x = 0 → Y34 d Q 18 lv st σ) := yX_at (.ifCond .ne 18, 3, 33, 0, 0, 0, []) rfl
theorem g34_18  : Y34 d Q 18 lv st σ ↔ zldR lv 0 (fun x => Y34 d Q 19 lv (.ref x :: st) σ) := yX_at (.aload_n 0, 1, 0, 0, 0, 0, []) rfl
theorem g34_19 {c : Nat} : Y34 d Q 19 lv (.ref c :: st) σ ↔ zK c = 5 ∧ Y34 d Q 22 lv (zfv σ c 11 :: st) σ := yX_at (.getfield 25, 3, 5, 11, 63, 0, []) rfl
theorem g34_22  : Y34 d Q 22 lv st σ ↔ zldI lv 2 (fun x => Y34 d Q 23 lv (.int x :: st) σ) := yX_at (.iload_n 2, 1, 0, 0, 0, 0, []) rfl
theorem g34_23 {j : Int32} {c : Nat} : Y34 d Q 23 lv (.int j :: .ref c :: st) σ ↔ (zK c = 100 ∧ vp_in j (zLn c)) ∧ Y34 d Q 24 lv (.int (σ.1 c j.toNatClampNeg) :: st) σ := yX_at (.iaload, 1, 0, 0, 0, 0, []) rfl
theorem g34_24  : Y34 d Q 24 lv st σ ↔ zldI lv 1 (fun x => Y34 d Q 25 lv (.int x :: st) σ) := yX_at (.iload_n 1, 1, 0, 0, 0, 0, []) rfl
theorem g34_25  : Y34 d Q 25 lv st σ ↔ Y34 d Q 26 lv (.int (-1) :: st) σ := by
  rw [show (-1 : Int32) = Int32.ofInt (-1) from by decide]
  exact yX_at (.iconst (-1), 1, 0, 0, 0, 0, []) rfl
theorem g34_26 {x y : Int32} : Y34 d Q 26 lv (.int y :: .int x :: st) σ ↔ Y34 d Q 27 lv (.int (x ^^^ y) :: st) σ := yX_at (.ixor, 1, 0, 0, 0, 0, []) rfl
theorem g34_27 {x y : Int32} : Y34 d Q 27 lv (.int y :: .int x :: st) σ ↔ Y34 d Q 28 lv (.int (x &&& y) :: st) σ := yX_at (.iand, 1, 0, 0, 0, 0, []) rfl
theorem g34_28 {x : Int32} : Y34 d Q 28 lv (.int x :: st) σ ↔ (¬ x = 0 → Y34 d Q 33 lv st σ) ∧ (x = 0 → Y34 d Q 31 lv st σ) := yX_at (.ifCond .ne 5, 3, 33, 0, 0, 0, []) rfl
theorem g34_31  : Y34 d Q 31 lv st σ ↔ zldI lv 2 (fun x => Y34 d Q 32 lv (.int x :: st) σ) := yX_at (.iload_n 2, 1, 0, 0, 0, 0, []) rfl
theorem g34_32 {x : Int32} : Y34 d Q 32 lv [.int x] σ ↔ Q (some (.int x)) σ := yX_at (.ireturn, 1, 0, 0, 0, 0, []) rfl
theorem g34_33  : Y34 d Q 33 lv st σ ↔ zldI lv 2 (fun x => Y34 d Q 36 (zs1 2 (.int (x + 1)) lv) st σ) := yX_at (.iinc 2 1, 3, 0, 0, 0, 0, []) rfl
theorem g34_36  : Y34 d Q 36 lv st σ ↔ Y34 d Q 2 lv st σ := yX_at (.goto (-34), 3, 2, 0, 0, 0, []) rfl
theorem g34_39  : Y34 d Q 39 lv st σ ↔ Y34 d Q 40 lv (.int (-1) :: st) σ := by
  rw [show (-1 : Int32) = Int32.ofInt (-1) from by decide]
  exact yX_at (.iconst (-1), 1, 0, 0, 0, 0, []) rfl
theorem g34_40 {x : Int32} : Y34 d Q 40 lv [.int x] σ ↔ Q (some (.int x)) σ := yX_at (.ireturn, 1, 0, 0, 0, 0, []) rfl
end G34
def Y35 (d : Nat) (Q : Option Value → zSt → Prop) (pc : Nat) (lv : zLv) (st : List Value) (σ : zSt) : Prop := yX (yE d) ySn zt35 Q pc lv st σ
theorem C35 {d : Nat} {as : List Value} {σ : zSt} {P : Option Value → zSt → Prop} (hl : (lg_sl as).length ≤ 5) (h : Y35 d P 0 (lv_args 0 as) [] σ) : yC (d + 1) 35 as σ P := yC_of (by decide) hl h
section G35
variable {d : Nat} {Q : Option Value → zSt → Prop} {lv : zLv} {st : List Value} {σ : zSt}
theorem g35_0  : Y35 d Q 0 lv st σ ↔ Y35 d Q 1 lv (.int 1 :: st) σ := yX_at (.iconst 1, 1, 0, 0, 0, 0, []) rfl
theorem g35_1  : Y35 d Q 1 lv st σ ↔ zldR lv 1 (fun x => Y35 d Q 2 lv (.ref x :: st) σ) := yX_at (.aload_n 1, 1, 0, 0, 0, 0, []) rfl
theorem g35_2 {c : Nat} : Y35 d Q 2 lv (.ref c :: st) σ ↔ zK c = 5 ∧ Y35 d Q 5 lv (zfv σ c 4 :: st) σ := yX_at (.getfield 15, 3, 5, 4, 60, 0, []) rfl
theorem g35_5 {x y : Int32} : Y35 d Q 5 lv (.int y :: .int x :: st) σ ↔ Y35 d Q 6 lv (.int (x <<< (y &&& 31)) :: st) σ := yX_at (.ishl, 1, 0, 0, 0, 0, []) rfl
theorem g35_6  : Y35 d Q 6 lv st σ ↔ Y35 d Q 7 lv (.int 1 :: st) σ := yX_at (.iconst 1, 1, 0, 0, 0, 0, []) rfl
theorem g35_7 {x y : Int32} : Y35 d Q 7 lv (.int y :: .int x :: st) σ ↔ Y35 d Q 8 lv (.int (x - y) :: st) σ := yX_at (.isub, 1, 0, 0, 0, 0, []) rfl
theorem g35_8 {x : Int32} : Y35 d Q 8 lv (.int x :: st) σ ↔ Y35 d Q 9 (zs1 2 (.int x) lv) st σ := yX_at (.istore_n 2, 1, 0, 0, 0, 0, []) rfl
theorem g35_9  : Y35 d Q 9 lv st σ ↔ zldI lv 2 (fun x => Y35 d Q 10 lv (.int x :: st) σ) := yX_at (.iload_n 2, 1, 0, 0, 0, 0, []) rfl
theorem g35_10 {x : Int32} : Y35 d Q 10 lv (.int x :: st) σ ↔ Y35 d Q 11 (zs1 3 (.int x) lv) st σ := yX_at (.istore_n 3, 1, 0, 0, 0, 0, []) rfl
theorem g35_11  : Y35 d Q 11 lv st σ ↔ Y35 d Q 12 lv (.int 0 :: st) σ := yX_at (.iconst 0, 1, 0, 0, 0, 0, []) rfl
theorem g35_12 {x : Int32} : Y35 d Q 12 lv (.int x :: st) σ ↔ Y35 d Q 14 (zs1 4 (.int x) lv) st σ := yX_at (.istore 4, 2, 0, 0, 0, 0, []) rfl
theorem g35_14  : Y35 d Q 14 lv st σ ↔ zldI lv 4 (fun x => Y35 d Q 16 lv (.int x :: st) σ) := yX_at (.iload 4, 2, 0, 0, 0, 0, []) rfl
theorem g35_16  : Y35 d Q 16 lv st σ ↔ zldI lv 2 (fun x => Y35 d Q 17 lv (.int x :: st) σ) := yX_at (.iload_n 2, 1, 0, 0, 0, 0, []) rfl
theorem g35_17 {x y : Int32} : Y35 d Q 17 lv (.int y :: .int x :: st) σ ↔ (y ≤ x → Y35 d Q 51 lv st σ) ∧ (¬ y ≤ x → Y35 d Q 20 lv st σ) := yX_at (.if_icmp .ge 34, 3, 51, 0, 0, 0, []) rfl
theorem g35_20  : Y35 d Q 20 lv st σ ↔ zldI lv 4 (fun x => Y35 d Q 22 lv (.int x :: st) σ) := yX_at (.iload 4, 2, 0, 0, 0, 0, []) rfl
theorem g35_22 {v0 : Value} : Y35 d Q 22 lv (v0 :: st) σ ↔ zrm st ∧ ∃ rv σ', yE d 146 [v0] σ rv σ' ∧ Y35 d Q 25 lv (rv.toList ++ st) σ' := yX_at (.invokestatic 28, 3, 146, 1, 64, 0, []) rfl
theorem g35_25  : Y35 d Q 25 lv st σ ↔ zldI lv 3 (fun x => Y35 d Q 26 lv (.int x :: st) σ) := yX_at (.iload_n 3, 1, 0, 0, 0, 0, []) rfl
theorem g35_26 {v0 : Value} : Y35 d Q 26 lv (v0 :: st) σ ↔ zrm st ∧ ∃ rv σ', yE d 146 [v0] σ rv σ' ∧ Y35 d Q 29 lv (rv.toList ++ st) σ' := yX_at (.invokestatic 28, 3, 146, 1, 64, 0, []) rfl
theorem g35_29 {x y : Int32} : Y35 d Q 29 lv (.int y :: .int x :: st) σ ↔ (y ≤ x → Y35 d Q 45 lv st σ) ∧ (¬ y ≤ x → Y35 d Q 32 lv st σ) := yX_at (.if_icmp .ge 16, 3, 45, 0, 0, 0, []) rfl
theorem g35_32  : Y35 d Q 32 lv st σ ↔ zldR lv 0 (fun x => Y35 d Q 33 lv (.ref x :: st) σ) := yX_at (.aload_n 0, 1, 0, 0, 0, 0, []) rfl
theorem g35_33  : Y35 d Q 33 lv st σ ↔ zldR lv 1 (fun x => Y35 d Q 34 lv (.ref x :: st) σ) := yX_at (.aload_n 1, 1, 0, 0, 0, 0, []) rfl
theorem g35_34  : Y35 d Q 34 lv st σ ↔ zldI lv 4 (fun x => Y35 d Q 36 lv (.int x :: st) σ) := yX_at (.iload 4, 2, 0, 0, 0, 0, []) rfl
theorem g35_36 {v0 v1 : Value} {c : Nat} : Y35 d Q 36 lv (v1 :: v0 :: .ref c :: st) σ ↔ (zrcv 3 c ∧ zrm st) ∧ ∃ rv σ', yE d 33 [.ref c, v0, v1] σ rv σ' ∧ Y35 d Q 39 lv (rv.toList ++ st) σ' := yX_at (.invokevirtual 34, 3, 33, 2, 65, 0, []) rfl
theorem g35_39 {x : Int32} : Y35 d Q 39 lv (.int x :: st) σ ↔ (¬ x = 0 → Y35 d Q 45 lv st σ) ∧ (x = 0 → Y35 d Q 42 lv st σ) := yX_at (.ifCond .ne 6, 3, 45, 0, 0, 0, []) rfl
theorem g35_42  : Y35 d Q 42 lv st σ ↔ zldI lv 4 (fun x => Y35 d Q 44 lv (.int x :: st) σ) := yX_at (.iload 4, 2, 0, 0, 0, 0, []) rfl
theorem g35_44 {x : Int32} : Y35 d Q 44 lv (.int x :: st) σ ↔ Y35 d Q 45 (zs1 3 (.int x) lv) st σ := yX_at (.istore_n 3, 1, 0, 0, 0, 0, []) rfl
theorem g35_45  : Y35 d Q 45 lv st σ ↔ zldI lv 4 (fun x => Y35 d Q 48 (zs1 4 (.int (x + 1)) lv) st σ) := yX_at (.iinc 4 1, 3, 0, 0, 0, 0, []) rfl
theorem g35_48  : Y35 d Q 48 lv st σ ↔ Y35 d Q 14 lv st σ := yX_at (.goto (-34), 3, 14, 0, 0, 0, []) rfl
theorem g35_51  : Y35 d Q 51 lv st σ ↔ zldI lv 3 (fun x => Y35 d Q 52 lv (.int x :: st) σ) := yX_at (.iload_n 3, 1, 0, 0, 0, 0, []) rfl
theorem g35_52 {x : Int32} : Y35 d Q 52 lv [.int x] σ ↔ Q (some (.int x)) σ := yX_at (.ireturn, 1, 0, 0, 0, 0, []) rfl
end G35
def Y36 (d : Nat) (Q : Option Value → zSt → Prop) (pc : Nat) (lv : zLv) (st : List Value) (σ : zSt) : Prop := yX (yE d) ySn zt36 Q pc lv st σ
theorem C36 {d : Nat} {as : List Value} {σ : zSt} {P : Option Value → zSt → Prop} (hl : (lg_sl as).length ≤ 5) (h : Y36 d P 0 (lv_args 0 as) [] σ) : yC (d + 1) 36 as σ P := yC_of (by decide) hl h
section G36
variable {d : Nat} {Q : Option Value → zSt → Prop} {lv : zLv} {st : List Value} {σ : zSt}
theorem g36_0  : Y36 d Q 0 lv st σ ↔ zldI lv 3 (fun x => Y36 d Q 1 lv (.int x :: st) σ) := yX_at (.iload_n 3, 1, 0, 0, 0, 0, []) rfl
theorem g36_1  : Y36 d Q 1 lv st σ ↔ Y36 d Q 2 lv (.int 1 :: st) σ := yX_at (.iconst 1, 1, 0, 0, 0, 0, []) rfl
theorem g36_2 {x y : Int32} : Y36 d Q 2 lv (.int y :: .int x :: st) σ ↔ Y36 d Q 3 lv (.int (x - y) :: st) σ := yX_at (.isub, 1, 0, 0, 0, 0, []) rfl
theorem g36_3 {x : Int32} : Y36 d Q 3 lv (.int x :: st) σ ↔ Y36 d Q 5 (zs1 4 (.int x) lv) st σ := yX_at (.istore 4, 2, 0, 0, 0, 0, []) rfl
theorem g36_5  : Y36 d Q 5 lv st σ ↔ zldI lv 4 (fun x => Y36 d Q 7 lv (.int x :: st) σ) := yX_at (.iload 4, 2, 0, 0, 0, 0, []) rfl
theorem g36_7 {x : Int32} : Y36 d Q 7 lv (.int x :: st) σ ↔ (x < 0 → Y36 d Q 44 lv st σ) ∧ (¬ x < 0 → Y36 d Q 10 lv st σ) := yX_at (.ifCond .lt 37, 3, 44, 0, 0, 0, []) rfl
theorem g36_10  : Y36 d Q 10 lv st σ ↔ zldR lv 0 (fun x => Y36 d Q 11 lv (.ref x :: st) σ) := yX_at (.aload_n 0, 1, 0, 0, 0, 0, []) rfl
theorem g36_11 {c : Nat} : Y36 d Q 11 lv (.ref c :: st) σ ↔ zK c = 4 ∧ Y36 d Q 14 lv (zfv σ c 0 :: st) σ := yX_at (.getfield 9, 3, 4, 0, 66, 0, []) rfl
theorem g36_14  : Y36 d Q 14 lv st σ ↔ zldR lv 0 (fun x => Y36 d Q 15 lv (.ref x :: st) σ) := yX_at (.aload_n 0, 1, 0, 0, 0, 0, []) rfl
theorem g36_15 {c : Nat} : Y36 d Q 15 lv (.ref c :: st) σ ↔ zK c = 4 ∧ Y36 d Q 18 lv (zfv σ c 1 :: st) σ := yX_at (.getfield 19, 3, 4, 1, 67, 0, []) rfl
theorem g36_18  : Y36 d Q 18 lv st σ ↔ zldJ lv 1 (fun x => Y36 d Q 19 lv (.long x :: st) σ) := yX_at (.lload_n 1, 1, 0, 0, 0, 0, []) rfl
theorem g36_19  : Y36 d Q 19 lv st σ ↔ Y36 d Q 21 lv (.int 8 :: st) σ := yX_at (.bipush 8, 2, 0, 0, 0, 0, []) rfl
theorem g36_21  : Y36 d Q 21 lv st σ ↔ zldI lv 4 (fun x => Y36 d Q 23 lv (.int x :: st) σ) := yX_at (.iload 4, 2, 0, 0, 0, 0, []) rfl
theorem g36_23 {x y : Int32} : Y36 d Q 23 lv (.int y :: .int x :: st) σ ↔ Y36 d Q 24 lv (.int (x * y) :: st) σ := yX_at (.imul, 1, 0, 0, 0, 0, []) rfl
theorem g36_24 {x : Int64} {y : Int32} : Y36 d Q 24 lv (.int y :: .long x :: st) σ ↔ Y36 d Q 25 lv (.long ((x.toUInt64 >>> (y.toInt64.toUInt64 &&& Int64.toUInt64 63)).toInt64) :: st) σ := yX_at (.lushr, 1, 0, 0, 0, 0, []) rfl
theorem g36_25 {x : Int64} : Y36 d Q 25 lv (.long x :: st) σ ↔ Y36 d Q 26 lv (.int x.toInt32 :: st) σ := yX_at (.l2i, 1, 0, 0, 0, 0, []) rfl
theorem g36_26 {x : Int32} : Y36 d Q 26 lv (.int x :: st) σ ↔ Y36 d Q 27 lv (.int x.toInt8.toInt32 :: st) σ := yX_at (.i2b, 1, 0, 0, 0, 0, []) rfl
theorem g36_27 {x j : Int32} {c : Nat} : Y36 d Q 27 lv (.int x :: .int j :: .ref c :: st) σ ↔ (zK c = 101 ∧ vp_in j (zLn c)) ∧ Y36 d Q 28 lv st (zwI σ c j.toNatClampNeg (vp_nar .byte x)) := yX_at (.bastore, 1, 0, 0, 0, 0, []) rfl
theorem g36_28  : Y36 d Q 28 lv st σ ↔ zldR lv 0 (fun x => Y36 d Q 29 lv (.ref x :: st) σ) := yX_at (.aload_n 0, 1, 0, 0, 0, 0, []) rfl
theorem g36_29  : Y36 d Q 29 lv st σ ↔ zdup st (fun r => Y36 d Q 30 lv r σ) := yX_at (.dup, 1, 0, 0, 0, 0, []) rfl
theorem g36_30 {c : Nat} : Y36 d Q 30 lv (.ref c :: st) σ ↔ zK c = 4 ∧ Y36 d Q 33 lv (zfv σ c 1 :: st) σ := yX_at (.getfield 19, 3, 4, 1, 67, 0, []) rfl
theorem g36_33  : Y36 d Q 33 lv st σ ↔ Y36 d Q 34 lv (.int 1 :: st) σ := yX_at (.iconst 1, 1, 0, 0, 0, 0, []) rfl
theorem g36_34 {x y : Int32} : Y36 d Q 34 lv (.int y :: .int x :: st) σ ↔ Y36 d Q 35 lv (.int (x + y) :: st) σ := yX_at (.iadd, 1, 0, 0, 0, 0, []) rfl
theorem g36_35 {x : Int32} {c : Nat} : Y36 d Q 35 lv (.int x :: .ref c :: st) σ ↔ zK c = 4 ∧ Y36 d Q 38 lv st (zwI σ c 1 x) := yX_at (.putfield 19, 3, 4, 1, 67, 0, []) rfl
theorem g36_38  : Y36 d Q 38 lv st σ ↔ zldI lv 4 (fun x => Y36 d Q 41 (zs1 4 (.int (x + (-1))) lv) st σ) := by
  rw [show (-1 : Int32) = Int32.ofInt (-1) from by decide]
  exact yX_at (.iinc 4 (-1), 3, 0, 0, 0, 0, []) rfl
theorem g36_41  : Y36 d Q 41 lv st σ ↔ Y36 d Q 5 lv st σ := yX_at (.goto (-36), 3, 5, 0, 0, 0, []) rfl
theorem g36_44  : Y36 d Q 44 lv [] σ ↔ Q none σ := yX_at (.return_, 1, 0, 0, 0, 0, []) rfl
end G36
def Y37 (d : Nat) (Q : Option Value → zSt → Prop) (pc : Nat) (lv : zLv) (st : List Value) (σ : zSt) : Prop := yX (yE d) ySn zt37 Q pc lv st σ
theorem C37 {d : Nat} {as : List Value} {σ : zSt} {P : Option Value → zSt → Prop} (hl : (lg_sl as).length ≤ 4) (h : Y37 d P 0 (lv_args 0 as) [] σ) : yC (d + 1) 37 as σ P := yC_of (by decide) hl h
section G37
variable {d : Nat} {Q : Option Value → zSt → Prop} {lv : zLv} {st : List Value} {σ : zSt}
theorem g37_0  : Y37 d Q 0 lv st σ ↔ zldR lv 0 (fun x => Y37 d Q 1 lv (.ref x :: st) σ) := yX_at (.aload_n 0, 1, 0, 0, 0, 0, []) rfl
theorem g37_1  : Y37 d Q 1 lv st σ ↔ Y37 d Q 2 lv (.int 0 :: st) σ := yX_at (.iconst 0, 1, 0, 0, 0, 0, []) rfl
theorem g37_2 {x : Int32} {c : Nat} : Y37 d Q 2 lv (.int x :: .ref c :: st) σ ↔ zK c = 4 ∧ Y37 d Q 5 lv st (zwI σ c 2 x) := yX_at (.putfield 23, 3, 4, 2, 68, 0, []) rfl
theorem g37_5  : Y37 d Q 5 lv st σ ↔ zldR lv 1 (fun x => Y37 d Q 6 lv (.ref x :: st) σ) := yX_at (.aload_n 1, 1, 0, 0, 0, 0, []) rfl
theorem g37_6 {c : Nat} : Y37 d Q 6 lv (.ref c :: st) σ ↔ (zrcv 5 c ∧ zrm st) ∧ ∃ rv σ', yE d 49 [.ref c] σ rv σ' ∧ Y37 d Q 9 lv (rv.toList ++ st) σ' := yX_at (.invokevirtual 26, 3, 49, 0, 69, 0, []) rfl
theorem g37_9  : Y37 d Q 9 lv st σ ↔ Y37 d Q 10 lv (.int 0 :: st) σ := yX_at (.iconst 0, 1, 0, 0, 0, 0, []) rfl
theorem g37_10 {x : Int32} : Y37 d Q 10 lv (.int x :: st) σ ↔ Y37 d Q 11 (zs1 2 (.int x) lv) st σ := yX_at (.istore_n 2, 1, 0, 0, 0, 0, []) rfl
theorem g37_11  : Y37 d Q 11 lv st σ ↔ zldI lv 2 (fun x => Y37 d Q 12 lv (.int x :: st) σ) := yX_at (.iload_n 2, 1, 0, 0, 0, 0, []) rfl
theorem g37_12  : Y37 d Q 12 lv st σ ↔ Y37 d Q 15 lv (.int 300 :: st) σ := yX_at (.sipush 300, 3, 0, 0, 0, 0, []) rfl
theorem g37_15 {x y : Int32} : Y37 d Q 15 lv (.int y :: .int x :: st) σ ↔ (y < x → Y37 d Q 101 lv st σ) ∧ (¬ y < x → Y37 d Q 18 lv st σ) := yX_at (.if_icmp .gt 86, 3, 101, 0, 0, 0, []) rfl
theorem g37_18  : Y37 d Q 18 lv st σ ↔ zldR lv 0 (fun x => Y37 d Q 19 lv (.ref x :: st) σ) := yX_at (.aload_n 0, 1, 0, 0, 0, 0, []) rfl
theorem g37_19 {c : Nat} : Y37 d Q 19 lv (.ref c :: st) σ ↔ (zrcv 4 c ∧ zrm st) ∧ ∃ rv σ', yE d 43 [.ref c] σ rv σ' ∧ Y37 d Q 22 lv (rv.toList ++ st) σ' := yX_at (.invokevirtual 31, 3, 43, 0, 70, 0, []) rfl
theorem g37_22  : Y37 d Q 22 lv st σ ↔ zldR lv 0 (fun x => Y37 d Q 23 lv (.ref x :: st) σ) := yX_at (.aload_n 0, 1, 0, 0, 0, 0, []) rfl
theorem g37_23 {c : Nat} : Y37 d Q 23 lv (.ref c :: st) σ ↔ zK c = 4 ∧ Y37 d Q 26 lv (zfv σ c 4 :: st) σ := yX_at (.getfield 34, 3, 4, 4, 71, 0, []) rfl
theorem g37_26 {x : Int32} : Y37 d Q 26 lv (.int x :: st) σ ↔ (¬ x = 0 → Y37 d Q 31 lv st σ) ∧ (x = 0 → Y37 d Q 29 lv st σ) := yX_at (.ifCond .ne 5, 3, 31, 0, 0, 0, []) rfl
theorem g37_29  : Y37 d Q 29 lv st σ ↔ zldI lv 2 (fun x => Y37 d Q 30 lv (.int x :: st) σ) := yX_at (.iload_n 2, 1, 0, 0, 0, 0, []) rfl
theorem g37_30 {x : Int32} : Y37 d Q 30 lv [.int x] σ ↔ Q (some (.int x)) σ := yX_at (.ireturn, 1, 0, 0, 0, 0, []) rfl
theorem g37_31  : Y37 d Q 31 lv st σ ↔ zldR lv 0 (fun x => Y37 d Q 32 lv (.ref x :: st) σ) := yX_at (.aload_n 0, 1, 0, 0, 0, 0, []) rfl
theorem g37_32  : Y37 d Q 32 lv st σ ↔ Y37 d Q 34 lv (.ref 2000 :: st) σ := yX_at (.ldc 37, 2, 1, 0, 0, 0, []) rfl
theorem g37_34 {v0 : Value} {c : Nat} : Y37 d Q 34 lv (v0 :: .ref c :: st) σ ↔ (zrcv 4 c ∧ zrm st) ∧ ∃ rv σ', yE d 46 [.ref c, v0] σ rv σ' ∧ Y37 d Q 37 lv (rv.toList ++ st) σ' := yX_at (.invokevirtual 39, 3, 46, 1, 72, 0, []) rfl
theorem g37_37 {x : Int32} : Y37 d Q 37 lv (.int x :: st) σ ↔ (x = 0 → Y37 d Q 48 lv st σ) ∧ (¬ x = 0 → Y37 d Q 40 lv st σ) := yX_at (.ifCond .eq 11, 3, 48, 0, 0, 0, []) rfl
theorem g37_40  : Y37 d Q 40 lv st σ ↔ zldR lv 0 (fun x => Y37 d Q 41 lv (.ref x :: st) σ) := yX_at (.aload_n 0, 1, 0, 0, 0, 0, []) rfl
theorem g37_41  : Y37 d Q 41 lv st σ ↔ zldR lv 1 (fun x => Y37 d Q 42 lv (.ref x :: st) σ) := yX_at (.aload_n 1, 1, 0, 0, 0, 0, []) rfl
theorem g37_42 {v0 : Value} {c : Nat} : Y37 d Q 42 lv (v0 :: .ref c :: st) σ ↔ (zrcv 4 c ∧ zrm st) ∧ ∃ rv σ', yE d 38 [.ref c, v0] σ rv σ' ∧ Y37 d Q 45 lv (rv.toList ++ st) σ' := yX_at (.invokevirtual 43, 3, 38, 1, 73, 0, []) rfl
theorem g37_45  : Y37 d Q 45 lv st σ ↔ Y37 d Q 87 lv st σ := yX_at (.goto 42, 3, 87, 0, 0, 0, []) rfl
theorem g37_48  : Y37 d Q 48 lv st σ ↔ zldR lv 0 (fun x => Y37 d Q 49 lv (.ref x :: st) σ) := yX_at (.aload_n 0, 1, 0, 0, 0, 0, []) rfl
theorem g37_49  : Y37 d Q 49 lv st σ ↔ Y37 d Q 51 lv (.ref 2001 :: st) σ := yX_at (.ldc 47, 2, 1, 1, 0, 0, []) rfl
theorem g37_51 {v0 : Value} {c : Nat} : Y37 d Q 51 lv (v0 :: .ref c :: st) σ ↔ (zrcv 4 c ∧ zrm st) ∧ ∃ rv σ', yE d 46 [.ref c, v0] σ rv σ' ∧ Y37 d Q 54 lv (rv.toList ++ st) σ' := yX_at (.invokevirtual 39, 3, 46, 1, 72, 0, []) rfl
theorem g37_54 {x : Int32} : Y37 d Q 54 lv (.int x :: st) σ ↔ (x = 0 → Y37 d Q 65 lv st σ) ∧ (¬ x = 0 → Y37 d Q 57 lv st σ) := yX_at (.ifCond .eq 11, 3, 65, 0, 0, 0, []) rfl
theorem g37_57  : Y37 d Q 57 lv st σ ↔ zldR lv 0 (fun x => Y37 d Q 58 lv (.ref x :: st) σ) := yX_at (.aload_n 0, 1, 0, 0, 0, 0, []) rfl
theorem g37_58  : Y37 d Q 58 lv st σ ↔ zldR lv 1 (fun x => Y37 d Q 59 lv (.ref x :: st) σ) := yX_at (.aload_n 1, 1, 0, 0, 0, 0, []) rfl
theorem g37_59 {v0 : Value} {c : Nat} : Y37 d Q 59 lv (v0 :: .ref c :: st) σ ↔ (zrcv 4 c ∧ zrm st) ∧ ∃ rv σ', yE d 39 [.ref c, v0] σ rv σ' ∧ Y37 d Q 62 lv (rv.toList ++ st) σ' := yX_at (.invokevirtual 49, 3, 39, 1, 74, 0, []) rfl
theorem g37_62  : Y37 d Q 62 lv st σ ↔ Y37 d Q 87 lv st σ := yX_at (.goto 25, 3, 87, 0, 0, 0, []) rfl
theorem g37_65  : Y37 d Q 65 lv st σ ↔ zldR lv 0 (fun x => Y37 d Q 66 lv (.ref x :: st) σ) := yX_at (.aload_n 0, 1, 0, 0, 0, 0, []) rfl
theorem g37_66  : Y37 d Q 66 lv st σ ↔ Y37 d Q 68 lv (.ref 2002 :: st) σ := yX_at (.ldc 52, 2, 1, 2, 0, 0, []) rfl
theorem g37_68 {v0 : Value} {c : Nat} : Y37 d Q 68 lv (v0 :: .ref c :: st) σ ↔ (zrcv 4 c ∧ zrm st) ∧ ∃ rv σ', yE d 46 [.ref c, v0] σ rv σ' ∧ Y37 d Q 71 lv (rv.toList ++ st) σ' := yX_at (.invokevirtual 39, 3, 46, 1, 72, 0, []) rfl
theorem g37_71 {x : Int32} : Y37 d Q 71 lv (.int x :: st) σ ↔ (x = 0 → Y37 d Q 86 lv st σ) ∧ (¬ x = 0 → Y37 d Q 74 lv st σ) := yX_at (.ifCond .eq 15, 3, 86, 0, 0, 0, []) rfl
theorem g37_74  : Y37 d Q 74 lv st σ ↔ zldR lv 0 (fun x => Y37 d Q 75 lv (.ref x :: st) σ) := yX_at (.aload_n 0, 1, 0, 0, 0, 0, []) rfl
theorem g37_75  : Y37 d Q 75 lv st σ ↔ zldR lv 1 (fun x => Y37 d Q 76 lv (.ref x :: st) σ) := yX_at (.aload_n 1, 1, 0, 0, 0, 0, []) rfl
theorem g37_76 {v0 : Value} {c : Nat} : Y37 d Q 76 lv (v0 :: .ref c :: st) σ ↔ (zrcv 4 c ∧ zrm st) ∧ ∃ rv σ', yE d 40 [.ref c, v0] σ rv σ' ∧ Y37 d Q 79 lv (rv.toList ++ st) σ' := yX_at (.invokevirtual 54, 3, 40, 1, 75, 0, []) rfl
theorem g37_79 {x : Int32} : Y37 d Q 79 lv (.int x :: st) σ ↔ (x = 0 → Y37 d Q 86 lv st σ) ∧ (¬ x = 0 → Y37 d Q 82 lv st σ) := yX_at (.ifCond .eq 7, 3, 86, 0, 0, 0, []) rfl
theorem g37_82  : Y37 d Q 82 lv st σ ↔ Y37 d Q 83 lv (.int 1 :: st) σ := yX_at (.iconst 1, 1, 0, 0, 0, 0, []) rfl
theorem g37_83  : Y37 d Q 83 lv st σ ↔ Y37 d Q 87 lv st σ := yX_at (.goto 4, 3, 87, 0, 0, 0, []) rfl
theorem g37_86  : Y37 d Q 86 lv st σ ↔ Y37 d Q 87 lv (.int 0 :: st) σ := yX_at (.iconst 0, 1, 0, 0, 0, 0, []) rfl
theorem g37_87 {x : Int32} : Y37 d Q 87 lv (.int x :: st) σ ↔ Y37 d Q 88 (zs1 3 (.int x) lv) st σ := yX_at (.istore_n 3, 1, 0, 0, 0, 0, []) rfl
theorem g37_88  : Y37 d Q 88 lv st σ ↔ zldI lv 3 (fun x => Y37 d Q 89 lv (.int x :: st) σ) := yX_at (.iload_n 3, 1, 0, 0, 0, 0, []) rfl
theorem g37_89 {x : Int32} : Y37 d Q 89 lv (.int x :: st) σ ↔ (¬ x = 0 → Y37 d Q 95 lv st σ) ∧ (x = 0 → Y37 d Q 92 lv st σ) := yX_at (.ifCond .ne 6, 3, 95, 0, 0, 0, []) rfl
theorem g37_92  : Y37 d Q 92 lv st σ ↔ Y37 d Q 101 lv st σ := yX_at (.goto 9, 3, 101, 0, 0, 0, []) rfl
theorem g37_95  : Y37 d Q 95 lv st σ ↔ zldI lv 2 (fun x => Y37 d Q 98 (zs1 2 (.int (x + 1)) lv) st σ) := yX_at (.iinc 2 1, 3, 0, 0, 0, 0, []) rfl
theorem g37_98  : Y37 d Q 98 lv st σ ↔ Y37 d Q 11 lv st σ := yX_at (.goto (-87), 3, 11, 0, 0, 0, []) rfl
theorem g37_101  : Y37 d Q 101 lv st σ ↔ Y37 d Q 103 lv (.int (-10) :: st) σ := by
  rw [show (-10 : Int32) = (Int8.ofInt (-10)).toInt32 from by decide]
  exact yX_at (.bipush (-10), 2, 0, 0, 0, 0, []) rfl
theorem g37_103  : Y37 d Q 103 lv st σ ↔ zldR lv 0 (fun x => Y37 d Q 104 lv (.ref x :: st) σ) := yX_at (.aload_n 0, 1, 0, 0, 0, 0, []) rfl
theorem g37_104 {c : Nat} : Y37 d Q 104 lv (.ref c :: st) σ ↔ zK c = 4 ∧ Y37 d Q 107 lv (zfv σ c 3 :: st) σ := yX_at (.getfield 57, 3, 4, 3, 76, 0, []) rfl
theorem g37_107 {x y : Int32} : Y37 d Q 107 lv (.int y :: .int x :: st) σ ↔ Y37 d Q 108 lv (.int (x - y) :: st) σ := yX_at (.isub, 1, 0, 0, 0, 0, []) rfl
theorem g37_108 {x : Int32} : Y37 d Q 108 lv [.int x] σ ↔ Q (some (.int x)) σ := yX_at (.ireturn, 1, 0, 0, 0, 0, []) rfl
end G37
