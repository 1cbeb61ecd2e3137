def Y0 (d : Nat) (Q : Option Value → zSt → Prop) (pc : Nat) (lv : zLv) (st : List Value) (σ : zSt) : Prop := yX (yE d) ySn zt0 Q pc lv st σ
theorem C0 {d : Nat} {as : List Value} {σ : zSt} {P : Option Value → zSt → Prop} (hl : (lg_sl as).length ≤ 5) (h : Y0 d P 0 (lv_args 0 as) [] σ) : yC (d + 1) 0 as σ P := yC_of (by decide) hl h
section G0
variable {d : Nat} {Q : Option Value → zSt → Prop} {lv : zLv} {st : List Value} {σ : zSt}
theorem g0_0  : Y0 d Q 0 lv st σ ↔ zldR lv 0 (fun x => Y0 d Q 1 lv (.ref x :: st) σ) := yX_at (.aload_n 0, 1, 0, 0, 0, 0, []) rfl
theorem g0_1 {c : Nat} : Y0 d Q 1 lv (.ref c :: st) σ ↔ zK c = 0 ∧ Y0 d Q 4 lv (zfv σ c 0 :: st) σ := yX_at (.getfield 9, 3, 0, 0, 0, 0, []) rfl
theorem g0_4  : Y0 d Q 4 lv st σ ↔ zldI lv 1 (fun x => Y0 d Q 5 lv (.int x :: st) σ) := yX_at (.iload_n 1, 1, 0, 0, 0, 0, []) rfl
theorem g0_5  : Y0 d Q 5 lv st σ ↔ zldI lv 2 (fun x => Y0 d Q 6 lv (.int x :: st) σ) := yX_at (.iload_n 2, 1, 0, 0, 0, 0, []) rfl
theorem g0_6 {x j : Int32} {c : Nat} : Y0 d Q 6 lv (.int x :: .int j :: .ref c :: st) σ ↔ (zK c = 100 ∧ vp_in j (zLn c)) ∧ Y0 d Q 7 lv st (zwI σ c j.toNatClampNeg x) := yX_at (.iastore, 1, 0, 0, 0, 0, []) rfl
theorem g0_7  : Y0 d Q 7 lv st σ ↔ zldR lv 0 (fun x => Y0 d Q 8 lv (.ref x :: st) σ) := yX_at (.aload_n 0, 1, 0, 0, 0, 0, []) rfl
theorem g0_8 {c : Nat} : Y0 d Q 8 lv (.ref c :: st) σ ↔ zK c = 0 ∧ Y0 d Q 11 lv (zfv σ c 1 :: st) σ := yX_at (.getfield 15, 3, 0, 1, 1, 0, []) rfl
theorem g0_11  : Y0 d Q 11 lv st σ ↔ zldI lv 1 (fun x => Y0 d Q 12 lv (.int x :: st) σ) := yX_at (.iload_n 1, 1, 0, 0, 0, 0, []) rfl
theorem g0_12  : Y0 d Q 12 lv st σ ↔ zldI lv 3 (fun x => Y0 d Q 13 lv (.int x :: st) σ) := yX_at (.iload_n 3, 1, 0, 0, 0, 0, []) rfl
theorem g0_13 {x j : Int32} {c : Nat} : Y0 d Q 13 lv (.int x :: .int j :: .ref c :: st) σ ↔ (zK c = 100 ∧ vp_in j (zLn c)) ∧ Y0 d Q 14 lv st (zwI σ c j.toNatClampNeg x) := yX_at (.iastore, 1, 0, 0, 0, 0, []) rfl
theorem g0_14  : Y0 d Q 14 lv st σ ↔ zldR lv 0 (fun x => Y0 d Q 15 lv (.ref x :: st) σ) := yX_at (.aload_n 0, 1, 0, 0, 0, 0, []) rfl
theorem g0_15 {c : Nat} : Y0 d Q 15 lv (.ref c :: st) σ ↔ zK c = 0 ∧ Y0 d Q 18 lv (zfv σ c 2 :: st) σ := yX_at (.getfield 18, 3, 0, 2, 2, 0, []) rfl
theorem g0_18  : Y0 d Q 18 lv st σ ↔ zldI lv 1 (fun x => Y0 d Q 19 lv (.int x :: st) σ) := yX_at (.iload_n 1, 1, 0, 0, 0, 0, []) rfl
theorem g0_19  : Y0 d Q 19 lv st σ ↔ zldI lv 4 (fun x => Y0 d Q 21 lv (.int x :: st) σ) := yX_at (.iload 4, 2, 0, 0, 0, 0, []) rfl
theorem g0_21 {x j : Int32} {c : Nat} : Y0 d Q 21 lv (.int x :: .int j :: .ref c :: st) σ ↔ (zK c = 100 ∧ vp_in j (zLn c)) ∧ Y0 d Q 22 lv st (zwI σ c j.toNatClampNeg x) := yX_at (.iastore, 1, 0, 0, 0, 0, []) rfl
theorem g0_22  : Y0 d Q 22 lv st σ ↔ zldR lv 0 (fun x => Y0 d Q 23 lv (.ref x :: st) σ) := yX_at (.aload_n 0, 1, 0, 0, 0, 0, []) rfl
theorem g0_23 {c : Nat} : Y0 d Q 23 lv (.ref c :: st) σ ↔ zK c = 0 ∧ Y0 d Q 26 lv (zfv σ c 3 :: st) σ := yX_at (.getfield 21, 3, 0, 3, 3, 0, []) rfl
theorem g0_26  : Y0 d Q 26 lv st σ ↔ zldI lv 1 (fun x => Y0 d Q 27 lv (.int x :: st) σ) := yX_at (.iload_n 1, 1, 0, 0, 0, 0, []) rfl
theorem g0_27  : Y0 d Q 27 lv st σ ↔ Y0 d Q 28 lv (.int 1 :: st) σ := yX_at (.iconst 1, 1, 0, 0, 0, 0, []) rfl
theorem g0_28 {x j : Int32} {c : Nat} : Y0 d Q 28 lv (.int x :: .int j :: .ref c :: st) σ ↔ (zK c = 102 ∧ vp_in j (zLn c)) ∧ Y0 d Q 29 lv st (zwI σ c j.toNatClampNeg (vp_nar .boolean x)) := yX_at (.bastore, 1, 1, 0, 0, 0, []) rfl
theorem g0_29  : Y0 d Q 29 lv [] σ ↔ Q none σ := yX_at (.return_, 1, 0, 0, 0, 0, []) rfl
end G0
def Y1 (d : Nat) (Q : Option Value → zSt → Prop) (pc : Nat) (lv : zLv) (st : List Value) (σ : zSt) : Prop := yX (yE d) ySn zt1 Q pc lv st σ
theorem C1 {d : Nat} {as : List Value} {σ : zSt} {P : Option Value → zSt → Prop} (hl : (lg_sl as).length ≤ 3) (h : Y1 d P 0 (lv_args 0 as) [] σ) : yC (d + 1) 1 as σ P := yC_of (by decide) hl h
section G1
variable {d : Nat} {Q : Option Value → zSt → Prop} {lv : zLv} {st : List Value} {σ : zSt}
theorem g1_0  : Y1 d Q 0 lv st σ ↔ Y1 d Q 1 lv (.int 0 :: st) σ := yX_at (.iconst 0, 1, 0, 0, 0, 0, []) rfl
theorem g1_1 {x : Int32} : Y1 d Q 1 lv (.int x :: st) σ ↔ Y1 d Q 2 (zs1 1 (.int x) lv) st σ := yX_at (.istore_n 1, 1, 0, 0, 0, 0, []) rfl
theorem g1_2  : Y1 d Q 2 lv st σ ↔ Y1 d Q 3 lv (.int 0 :: st) σ := yX_at (.iconst 0, 1, 0, 0, 0, 0, []) rfl
theorem g1_3 {x : Int32} : Y1 d Q 3 lv (.int x :: st) σ ↔ Y1 d Q 4 (zs1 2 (.int x) lv) st σ := yX_at (.istore_n 2, 1, 0, 0, 0, 0, []) rfl
theorem g1_4  : Y1 d Q 4 lv st σ ↔ zldI lv 2 (fun x => Y1 d Q 5 lv (.int x :: st) σ) := yX_at (.iload_n 2, 1, 0, 0, 0, 0, []) rfl
theorem g1_5  : Y1 d Q 5 lv st σ ↔ Y1 d Q 6 lv (.int 3 :: st) σ := yX_at (.iconst 3, 1, 0, 0, 0, 0, []) rfl
theorem g1_6 {x y : Int32} : Y1 d Q 6 lv (.int y :: .int x :: st) σ ↔ (y ≤ x → Y1 d Q 24 lv st σ) ∧ (¬ y ≤ x → Y1 d Q 9 lv st σ) := yX_at (.if_icmp .ge 18, 3, 24, 0, 0, 0, []) rfl
theorem g1_9  : Y1 d Q 9 lv st σ ↔ zldI lv 1 (fun x => Y1 d Q 10 lv (.int x :: st) σ) := yX_at (.iload_n 1, 1, 0, 0, 0, 0, []) rfl
theorem g1_10  : Y1 d Q 10 lv st σ ↔ zldR lv 0 (fun x => Y1 d Q 11 lv (.ref x :: st) σ) := yX_at (.aload_n 0, 1, 0, 0, 0, 0, []) rfl
theorem g1_11 {c : Nat} : Y1 d Q 11 lv (.ref c :: st) σ ↔ zK c = 0 ∧ Y1 d Q 14 lv (zfv σ c 0 :: st) σ := yX_at (.getfield 9, 3, 0, 0, 0, 0, []) rfl
theorem g1_14  : Y1 d Q 14 lv st σ ↔ zldI lv 2 (fun x => Y1 d Q 15 lv (.int x :: st) σ) := yX_at (.iload_n 2, 1, 0, 0, 0, 0, []) rfl
theorem g1_15 {j : Int32} {c : Nat} : Y1 d Q 15 lv (.int j :: .ref c :: st) σ ↔ (zK c = 100 ∧ vp_in j (zLn c)) ∧ Y1 d Q 16 lv (.int (σ.1 c j.toNatClampNeg) :: st) σ := yX_at (.iaload, 1, 0, 0, 0, 0, []) rfl
theorem g1_16 {x y : Int32} : Y1 d Q 16 lv (.int y :: .int x :: st) σ ↔ Y1 d Q 17 lv (.int (x + y) :: st) σ := yX_at (.iadd, 1, 0, 0, 0, 0, []) rfl
theorem g1_17 {x : Int32} : Y1 d Q 17 lv (.int x :: st) σ ↔ Y1 d Q 18 (zs1 1 (.int x) lv) st σ := yX_at (.istore_n 1, 1, 0, 0, 0, 0, []) rfl
theorem g1_18  : Y1 d Q 18 lv st σ ↔ zldI lv 2 (fun x => Y1 d Q 21 (zs1 2 (.int (x + 1)) lv) st σ) := yX_at (.iinc 2 1, 3, 0, 0, 0, 0, []) rfl
theorem g1_21  : Y1 d Q 21 lv st σ ↔ Y1 d Q 4 lv st σ := yX_at (.goto (-17), 3, 4, 0, 0, 0, []) rfl
theorem g1_24  : Y1 d Q 24 lv st σ ↔ zldI lv 1 (fun x => Y1 d Q 25 lv (.int x :: st) σ) := yX_at (.iload_n 1, 1, 0, 0, 0, 0, []) rfl
theorem g1_25 {x : Int32} : Y1 d Q 25 lv [.int x] σ ↔ Q (some (.int x)) σ := yX_at (.ireturn, 1, 0, 0, 0, 0, []) rfl
end G1
def Y2 (d : Nat) (Q : Option Value → zSt → Prop) (pc : Nat) (lv : zLv) (st : List Value) (σ : zSt) : Prop := yX (yE d) ySn zt2 Q pc lv st σ
theorem C2 {d : Nat} {as : List Value} {σ : zSt} {P : Option Value → zSt → Prop} (hl : (lg_sl as).length ≤ 5) (h : Y2 d P 0 (lv_args 0 as) [] σ) : yC (d + 1) 2 as σ P := yC_of (by decide) hl h
section G2
variable {d : Nat} {Q : Option Value → zSt → Prop} {lv : zLv} {st : List Value} {σ : zSt}
theorem g2_0  : Y2 d Q 0 lv st σ ↔ Y2 d Q 1 lv (.int 1 :: st) σ := yX_at (.iconst 1, 1, 0, 0, 0, 0, []) rfl
theorem g2_1 {x : Int32} : Y2 d Q 1 lv (.int x :: st) σ ↔ Y2 d Q 2 (zs1 3 (.int x) lv) st σ := yX_at (.istore_n 3, 1, 0, 0, 0, 0, []) rfl
theorem g2_2  : Y2 d Q 2 lv st σ ↔ zldI lv 3 (fun x => Y2 d Q 3 lv (.int x :: st) σ) := yX_at (.iload_n 3, 1, 0, 0, 0, 0, []) rfl
theorem g2_3  : Y2 d Q 3 lv st σ ↔ zldI lv 1 (fun x => Y2 d Q 4 lv (.int x :: st) σ) := yX_at (.iload_n 1, 1, 0, 0, 0, 0, []) rfl
theorem g2_4 {x y : Int32} : Y2 d Q 4 lv (.int y :: .int x :: st) σ ↔ (y < x → Y2 d Q 46 lv st σ) ∧ (¬ y < x → Y2 d Q 7 lv st σ) := yX_at (.if_icmp .gt 42, 3, 46, 0, 0, 0, []) rfl
theorem g2_7  : Y2 d Q 7 lv st σ ↔ Y2 d Q 8 lv (.int 0 :: st) σ := yX_at (.iconst 0, 1, 0, 0, 0, 0, []) rfl
theorem g2_8 {x : Int32} : Y2 d Q 8 lv (.int x :: st) σ ↔ Y2 d Q 10 (zs1 4 (.int x) lv) st σ := yX_at (.istore 4, 2, 0, 0, 0, 0, []) rfl
theorem g2_10  : Y2 d Q 10 lv st σ ↔ zldI lv 4 (fun x => Y2 d Q 12 lv (.int x :: st) σ) := yX_at (.iload 4, 2, 0, 0, 0, 0, []) rfl
theorem g2_12  : Y2 d Q 12 lv st σ ↔ Y2 d Q 14 lv (.int 6 :: st) σ := yX_at (.bipush 6, 2, 0, 0, 0, 0, []) rfl
theorem g2_14 {x y : Int32} : Y2 d Q 14 lv (.int y :: .int x :: st) σ ↔ (y ≤ x → Y2 d Q 40 lv st σ) ∧ (¬ y ≤ x → Y2 d Q 17 lv st σ) := yX_at (.if_icmp .ge 26, 3, 40, 0, 0, 0, []) rfl
theorem g2_17  : Y2 d Q 17 lv st σ ↔ zldR lv 0 (fun x => Y2 d Q 18 lv (.ref x :: st) σ) := yX_at (.aload_n 0, 1, 0, 0, 0, 0, []) rfl
theorem g2_18 {c : Nat} : Y2 d Q 18 lv (.ref c :: st) σ ↔ zK c = 0 ∧ Y2 d Q 21 lv (zfv σ c 4 :: st) σ := yX_at (.getfield 27, 3, 0, 4, 4, 0, []) rfl
theorem g2_21  : Y2 d Q 21 lv st σ ↔ zldI lv 3 (fun x => Y2 d Q 22 lv (.int x :: st) σ) := yX_at (.iload_n 3, 1, 0, 0, 0, 0, []) rfl
theorem g2_22 {j : Int32} {c : Nat} : Y2 d Q 22 lv (.int j :: .ref c :: st) σ ↔ ((zK c = 104 ∨ zK c = 105) ∧ vp_in j (zLn c)) ∧ Y2 d Q 23 lv (.ref (zR c j.toNatClampNeg) :: st) σ := yX_at (.aaload, 1, 0, 0, 0, 0, []) rfl
theorem g2_23  : Y2 d Q 23 lv st σ ↔ zldI lv 4 (fun x => Y2 d Q 25 lv (.int x :: st) σ) := yX_at (.iload 4, 2, 0, 0, 0, 0, []) rfl
theorem g2_25  : Y2 d Q 25 lv st σ ↔ zldR lv 0 (fun x => Y2 d Q 26 lv (.ref x :: st) σ) := yX_at (.aload_n 0, 1, 0, 0, 0, 0, []) rfl
theorem g2_26  : Y2 d Q 26 lv st σ ↔ zldI lv 3 (fun x => Y2 d Q 27 lv (.int x :: st) σ) := yX_at (.iload_n 3, 1, 0, 0, 0, 0, []) rfl
theorem g2_27  : Y2 d Q 27 lv st σ ↔ zldI lv 4 (fun x => Y2 d Q 29 lv (.int x :: st) σ) := yX_at (.iload 4, 2, 0, 0, 0, 0, []) rfl
theorem g2_29  : Y2 d Q 29 lv st σ ↔ zldI lv 2 (fun x => Y2 d Q 30 lv (.int x :: st) σ) := yX_at (.iload_n 2, 1, 0, 0, 0, 0, []) rfl
theorem g2_30 {v0 v1 v2 : Value} {c : Nat} : Y2 d Q 30 lv (v2 :: v1 :: v0 :: .ref c :: st) σ ↔ (zrcv 0 c ∧ zrm st) ∧ ∃ rv σ', yE d 3 [.ref c, v0, v1, v2] σ rv σ' ∧ Y2 d Q 33 lv (rv.toList ++ st) σ' := yX_at (.invokevirtual 30, 3, 3, 3, 5, 0, []) rfl
theorem g2_33 {x : Int64} {j : Int32} {c : Nat} : Y2 d Q 33 lv (.long x :: .int j :: .ref c :: st) σ ↔ (zK c = 103 ∧ vp_in j (zLn c)) ∧ Y2 d Q 34 lv st (zwJ σ c j.toNatClampNeg x) := yX_at (.lastore, 1, 0, 0, 0, 0, []) rfl
theorem g2_34  : Y2 d Q 34 lv st σ ↔ zldI lv 4 (fun x => Y2 d Q 37 (zs1 4 (.int (x + 1)) lv) st σ) := yX_at (.iinc 4 1, 3, 0, 0, 0, 0, []) rfl
theorem g2_37  : Y2 d Q 37 lv st σ ↔ Y2 d Q 10 lv st σ := yX_at (.goto (-27), 3, 10, 0, 0, 0, []) rfl
theorem g2_40  : Y2 d Q 40 lv st σ ↔ zldI lv 3 (fun x => Y2 d Q 43 (zs1 3 (.int (x + 1)) lv) st σ) := yX_at (.iinc 3 1, 3, 0, 0, 0, 0, []) rfl
theorem g2_43  : Y2 d Q 43 lv st σ ↔ Y2 d Q 2 lv st σ := yX_at (.goto (-41), 3, 2, 0, 0, 0, []) rfl
theorem g2_46  : Y2 d Q 46 lv [] σ ↔ Q none σ := yX_at (.return_, 1, 0, 0, 0, 0, []) rfl
end G2
def Y3 (d : Nat) (Q : Option Value → zSt → Prop) (pc : Nat) (lv : zLv) (st : List Value) (σ : zSt) : Prop := yX (yE d) ySn zt3 Q pc lv st σ
theorem C3 {d : Nat} {as : List Value} {σ : zSt} {P : Option Value → zSt → Prop} (hl : (lg_sl as).length ≤ 10) (h : Y3 d P 0 (lv_args 0 as) [] σ) : yC (d + 1) 3 as σ P := yC_of (by decide) hl h
section G3
variable {d : Nat} {Q : Option Value → zSt → Prop} {lv : zLv} {st : List Value} {σ : zSt}
theorem g3_0  : Y3 d Q 0 lv st σ ↔ zldR lv 0 (fun x => Y3 d Q 1 lv (.ref x :: st) σ) := yX_at (.aload_n 0, 1, 0, 0, 0, 0, []) rfl
theorem g3_1 {c : Nat} : Y3 d Q 1 lv (.ref c :: st) σ ↔ zK c = 0 ∧ Y3 d Q 4 lv (zfv σ c 4 :: st) σ := yX_at (.getfield 27, 3, 0, 4, 4, 0, []) rfl
theorem g3_4  : Y3 d Q 4 lv st σ ↔ zldI lv 1 (fun x => Y3 d Q 5 lv (.int x :: st) σ) := yX_at (.iload_n 1, 1, 0, 0, 0, 0, []) rfl
theorem g3_5  : Y3 d Q 5 lv st σ ↔ Y3 d Q 6 lv (.int 1 :: st) σ := yX_at (.iconst 1, 1, 0, 0, 0, 0, []) rfl
theorem g3_6 {x y : Int32} : Y3 d Q 6 lv (.int y :: .int x :: st) σ ↔ Y3 d Q 7 lv (.int (x - y) :: st) σ := yX_at (.isub, 1, 0, 0, 0, 0, []) rfl
theorem g3_7 {j : Int32} {c : Nat} : Y3 d Q 7 lv (.int j :: .ref c :: st) σ ↔ ((zK c = 104 ∨ zK c = 105) ∧ vp_in j (zLn c)) ∧ Y3 d Q 8 lv (.ref (zR c j.toNatClampNeg) :: st) σ := yX_at (.aaload, 1, 0, 0, 0, 0, []) rfl
theorem g3_8  : Y3 d Q 8 lv st σ ↔ zldI lv 2 (fun x => Y3 d Q 9 lv (.int x :: st) σ) := yX_at (.iload_n 2, 1, 0, 0, 0, 0, []) rfl
theorem g3_9 {v0 : Value} : Y3 d Q 9 lv (v0 :: st) σ ↔ zrm st ∧ ∃ rv σ', yE d 5 [v0] σ rv σ' ∧ Y3 d Q 12 lv (rv.toList ++ st) σ' := yX_at (.invokestatic 34, 3, 5, 1, 6, 0, []) rfl
theorem g3_12 {j : Int32} {c : Nat} : Y3 d Q 12 lv (.int j :: .ref c :: st) σ ↔ (zK c = 103 ∧ vp_in j (zLn c)) ∧ Y3 d Q 13 lv (.long (σ.2.1 c j.toNatClampNeg) :: st) σ := yX_at (.laload, 1, 0, 0, 0, 0, []) rfl
theorem g3_13 {x : Int64} : Y3 d Q 13 lv (.long x :: st) σ ↔ Y3 d Q 15 (zs2 4 (.long x) lv) st σ := yX_at (.lstore 4, 2, 0, 0, 0, 0, []) rfl
theorem g3_15  : Y3 d Q 15 lv st σ ↔ Y3 d Q 17 lv (.int 10 :: st) σ := yX_at (.bipush 10, 2, 0, 0, 0, 0, []) rfl
theorem g3_17  : Y3 d Q 17 lv st σ ↔ zldR lv 0 (fun x => Y3 d Q 18 lv (.ref x :: st) σ) := yX_at (.aload_n 0, 1, 0, 0, 0, 0, []) rfl
theorem g3_18 {c : Nat} : Y3 d Q 18 lv (.ref c :: st) σ ↔ (zrcv 0 c ∧ zrm st) ∧ ∃ rv σ', yE d 1 [.ref c] σ rv σ' ∧ Y3 d Q 21 lv (rv.toList ++ st) σ' := yX_at (.invokevirtual 38, 3, 1, 0, 7, 0, []) rfl
theorem g3_21 {x y : Int32} : Y3 d Q 21 lv (.int y :: .int x :: st) σ ↔ Y3 d Q 22 lv (.int (x - y) :: st) σ := yX_at (.isub, 1, 0, 0, 0, 0, []) rfl
theorem g3_22 {x : Int32} : Y3 d Q 22 lv (.int x :: st) σ ↔ Y3 d Q 23 lv (.long x.toInt64 :: st) σ := yX_at (.i2l, 1, 0, 0, 0, 0, []) rfl
theorem g3_23  : Y3 d Q 23 lv st σ ↔ zldJ lv 4 (fun x => Y3 d Q 25 lv (.long x :: st) σ) := yX_at (.lload 4, 2, 0, 0, 0, 0, []) rfl
theorem g3_25 {x y : Int64} : Y3 d Q 25 lv (.long y :: .long x :: st) σ ↔ Y3 d Q 26 lv (.long (x * y) :: st) σ := yX_at (.lmul, 1, 0, 0, 0, 0, []) rfl
theorem g3_26 {x : Int64} : Y3 d Q 26 lv (.long x :: st) σ ↔ Y3 d Q 28 (zs2 6 (.long x) lv) st σ := yX_at (.lstore 6, 2, 0, 0, 0, 0, []) rfl
theorem g3_28  : Y3 d Q 28 lv st σ ↔ zldI lv 2 (fun x => Y3 d Q 29 lv (.int x :: st) σ) := yX_at (.iload_n 2, 1, 0, 0, 0, 0, []) rfl
theorem g3_29  : Y3 d Q 29 lv st σ ↔ Y3 d Q 30 lv (.int 2 :: st) σ := yX_at (.iconst 2, 1, 0, 0, 0, 0, []) rfl
theorem g3_30 {x y : Int32} : Y3 d Q 30 lv (.int y :: .int x :: st) σ ↔ (¬ y = 0) ∧ Y3 d Q 31 lv (.int (x / y) :: st) σ := yX_at (.idiv, 1, 0, 0, 0, 0, []) rfl
theorem g3_31  : Y3 d Q 31 lv st σ ↔ zldI lv 2 (fun x => Y3 d Q 32 lv (.int x :: st) σ) := yX_at (.iload_n 2, 1, 0, 0, 0, 0, []) rfl
theorem g3_32  : Y3 d Q 32 lv st σ ↔ Y3 d Q 33 lv (.int 2 :: st) σ := yX_at (.iconst 2, 1, 0, 0, 0, 0, []) rfl
theorem g3_33 {x y : Int32} : Y3 d Q 33 lv (.int y :: .int x :: st) σ ↔ (¬ y = 0) ∧ Y3 d Q 34 lv (.int (x - x / y * y) :: st) σ := yX_at (.irem, 1, 0, 0, 0, 0, []) rfl
theorem g3_34 {x y : Int32} : Y3 d Q 34 lv (.int y :: .int x :: st) σ ↔ Y3 d Q 35 lv (.int (x + y) :: st) σ := yX_at (.iadd, 1, 0, 0, 0, 0, []) rfl
theorem g3_35  : Y3 d Q 35 lv st σ ↔ zldI lv 3 (fun x => Y3 d Q 36 lv (.int x :: st) σ) := yX_at (.iload_n 3, 1, 0, 0, 0, 0, []) rfl
theorem g3_36 {x y : Int32} : Y3 d Q 36 lv (.int y :: .int x :: st) σ ↔ (y ≤ x → Y3 d Q 43 lv st σ) ∧ (¬ y ≤ x → Y3 d Q 39 lv st σ) := yX_at (.if_icmp .ge 7, 3, 43, 0, 0, 0, []) rfl
theorem g3_39  : Y3 d Q 39 lv st σ ↔ Y3 d Q 40 lv (.int 1 :: st) σ := yX_at (.iconst 1, 1, 0, 0, 0, 0, []) rfl
theorem g3_40  : Y3 d Q 40 lv st σ ↔ Y3 d Q 44 lv st σ := yX_at (.goto 4, 3, 44, 0, 0, 0, []) rfl
theorem g3_43  : Y3 d Q 43 lv st σ ↔ Y3 d Q 44 lv (.int 0 :: st) σ := yX_at (.iconst 0, 1, 0, 0, 0, 0, []) rfl
theorem g3_44 {x : Int32} : Y3 d Q 44 lv (.int x :: st) σ ↔ Y3 d Q 46 (zs1 8 (.int x) lv) st σ := yX_at (.istore 8, 2, 0, 0, 0, 0, []) rfl
theorem g3_46  : Y3 d Q 46 lv st σ ↔ Y3 d Q 47 lv (.int 0 :: st) σ := yX_at (.iconst 0, 1, 0, 0, 0, 0, []) rfl
theorem g3_47 {x : Int32} : Y3 d Q 47 lv (.int x :: st) σ ↔ Y3 d Q 49 (zs1 9 (.int x) lv) st σ := yX_at (.istore 9, 2, 0, 0, 0, 0, []) rfl
theorem g3_49  : Y3 d Q 49 lv st σ ↔ zldI lv 9 (fun x => Y3 d Q 51 lv (.int x :: st) σ) := yX_at (.iload 9, 2, 0, 0, 0, 0, []) rfl
theorem g3_51  : Y3 d Q 51 lv st σ ↔ Y3 d Q 52 lv (.int 3 :: st) σ := yX_at (.iconst 3, 1, 0, 0, 0, 0, []) rfl
theorem g3_52 {x y : Int32} : Y3 d Q 52 lv (.int y :: .int x :: st) σ ↔ (y ≤ x → Y3 d Q 98 lv st σ) ∧ (¬ y ≤ x → Y3 d Q 55 lv st σ) := yX_at (.if_icmp .ge 46, 3, 98, 0, 0, 0, []) rfl
theorem g3_55  : Y3 d Q 55 lv st σ ↔ zldJ lv 6 (fun x => Y3 d Q 57 lv (.long x :: st) σ) := yX_at (.lload 6, 2, 0, 0, 0, 0, []) rfl
theorem g3_57  : Y3 d Q 57 lv st σ ↔ zldR lv 0 (fun x => Y3 d Q 58 lv (.ref x :: st) σ) := yX_at (.aload_n 0, 1, 0, 0, 0, 0, []) rfl
theorem g3_58 {c : Nat} : Y3 d Q 58 lv (.ref c :: st) σ ↔ zK c = 0 ∧ Y3 d Q 61 lv (zfv σ c 0 :: st) σ := yX_at (.getfield 9, 3, 0, 0, 0, 0, []) rfl
theorem g3_61  : Y3 d Q 61 lv st σ ↔ zldI lv 9 (fun x => Y3 d Q 63 lv (.int x :: st) σ) := yX_at (.iload 9, 2, 0, 0, 0, 0, []) rfl
theorem g3_63 {j : Int32} {c : Nat} : Y3 d Q 63 lv (.int j :: .ref c :: st) σ ↔ (zK c = 100 ∧ vp_in j (zLn c)) ∧ Y3 d Q 64 lv (.int (σ.1 c j.toNatClampNeg) :: st) σ := yX_at (.iaload, 1, 0, 0, 0, 0, []) rfl
theorem g3_64 {x : Int32} : Y3 d Q 64 lv (.int x :: st) σ ↔ Y3 d Q 65 lv (.long x.toInt64 :: st) σ := yX_at (.i2l, 1, 0, 0, 0, 0, []) rfl
theorem g3_65  : Y3 d Q 65 lv st σ ↔ zldI lv 8 (fun x => Y3 d Q 67 lv (.int x :: st) σ) := yX_at (.iload 8, 2, 0, 0, 0, 0, []) rfl
theorem g3_67 {x : Int32} : Y3 d Q 67 lv (.int x :: st) σ ↔ (x = 0 → Y3 d Q 86 lv st σ) ∧ (¬ x = 0 → Y3 d Q 70 lv st σ) := yX_at (.ifCond .eq 19, 3, 86, 0, 0, 0, []) rfl
theorem g3_70  : Y3 d Q 70 lv st σ ↔ zldJ lv 4 (fun x => Y3 d Q 72 lv (.long x :: st) σ) := yX_at (.lload 4, 2, 0, 0, 0, 0, []) rfl
theorem g3_72  : Y3 d Q 72 lv st σ ↔ zldR lv 0 (fun x => Y3 d Q 73 lv (.ref x :: st) σ) := yX_at (.aload_n 0, 1, 0, 0, 0, 0, []) rfl
theorem g3_73  : Y3 d Q 73 lv st σ ↔ zldI lv 9 (fun x => Y3 d Q 75 lv (.int x :: st) σ) := yX_at (.iload 9, 2, 0, 0, 0, 0, []) rfl
theorem g3_75  : Y3 d Q 75 lv st σ ↔ zldI lv 1 (fun x => Y3 d Q 76 lv (.int x :: st) σ) := yX_at (.iload_n 1, 1, 0, 0, 0, 0, []) rfl
theorem g3_76  : Y3 d Q 76 lv st σ ↔ zldI lv 2 (fun x => Y3 d Q 77 lv (.int x :: st) σ) := yX_at (.iload_n 2, 1, 0, 0, 0, 0, []) rfl
theorem g3_77 {v0 v1 v2 : Value} {c : Nat} : Y3 d Q 77 lv (v2 :: v1 :: v0 :: .ref c :: st) σ ↔ (zrcv 0 c ∧ zrm st) ∧ ∃ rv σ', yE d 4 [.ref c, v0, v1, v2] σ rv σ' ∧ Y3 d Q 80 lv (rv.toList ++ st) σ' := yX_at (.invokevirtual 42, 3, 4, 3, 8, 0, []) rfl
theorem g3_80 {x y : Int64} : Y3 d Q 80 lv (.long y :: .long x :: st) σ ↔ zrm st ∧ Y3 d Q 83 lv (.long (if y < x then x else y) :: st) σ := yX_at (.invokestatic 45, 3, 903, 2, 9, 0, []) rfl
theorem g3_83  : Y3 d Q 83 lv st σ ↔ Y3 d Q 88 lv st σ := yX_at (.goto 5, 3, 88, 0, 0, 0, []) rfl
theorem g3_86  : Y3 d Q 86 lv st σ ↔ zldJ lv 4 (fun x => Y3 d Q 88 lv (.long x :: st) σ) := yX_at (.lload 4, 2, 0, 0, 0, 0, []) rfl
theorem g3_88 {x y : Int64} : Y3 d Q 88 lv (.long y :: .long x :: st) σ ↔ Y3 d Q 89 lv (.long (x * y) :: st) σ := yX_at (.lmul, 1, 0, 0, 0, 0, []) rfl
theorem g3_89 {x y : Int64} : Y3 d Q 89 lv (.long y :: .long x :: st) σ ↔ Y3 d Q 90 lv (.long (x + y) :: st) σ := yX_at (.ladd, 1, 0, 0, 0, 0, []) rfl
theorem g3_90 {x : Int64} : Y3 d Q 90 lv (.long x :: st) σ ↔ Y3 d Q 92 (zs2 6 (.long x) lv) st σ := yX_at (.lstore 6, 2, 0, 0, 0, 0, []) rfl
theorem g3_92  : Y3 d Q 92 lv st σ ↔ zldI lv 9 (fun x => Y3 d Q 95 (zs1 9 (.int (x + 1)) lv) st σ) := yX_at (.iinc 9 1, 3, 0, 0, 0, 0, []) rfl
theorem g3_95  : Y3 d Q 95 lv st σ ↔ Y3 d Q 49 lv st σ := yX_at (.goto (-46), 3, 49, 0, 0, 0, []) rfl
theorem g3_98  : Y3 d Q 98 lv st σ ↔ zldJ lv 6 (fun x => Y3 d Q 100 lv (.long x :: st) σ) := yX_at (.lload 6, 2, 0, 0, 0, 0, []) rfl
theorem g3_100 {x : Int64} : Y3 d Q 100 lv [.long x] σ ↔ Q (some (.long x)) σ := yX_at (.lreturn, 1, 0, 0, 0, 0, []) rfl
end G3
def Y4 (d : Nat) (Q : Option Value → zSt → Prop) (pc : Nat) (lv : zLv) (st : List Value) (σ : zSt) : Prop := yX (yE d) ySn zt4 Q pc lv st σ
theorem C4 {d : Nat} {as : List Value} {σ : zSt} {P : Option Value → zSt → Prop} (hl : (lg_sl as).length ≤ 4) (h : Y4 d P 0 (lv_args 0 as) [] σ) : yC (d + 1) 4 as σ P := yC_of (by decide) hl h
section G4
variable {d : Nat} {Q : Option Value → zSt → Prop} {lv : zLv} {st : List Value} {σ : zSt}
theorem g4_0  : Y4 d Q 0 lv st σ ↔ zldR lv 0 (fun x => Y4 d Q 1 lv (.ref x :: st) σ) := yX_at (.aload_n 0, 1, 0, 0, 0, 0, []) rfl
theorem g4_1 {c : Nat} : Y4 d Q 1 lv (.ref c :: st) σ ↔ zK c = 0 ∧ Y4 d Q 4 lv (zfv σ c 1 :: st) σ := yX_at (.getfield 15, 3, 0, 1, 1, 0, []) rfl
theorem g4_4  : Y4 d Q 4 lv st σ ↔ zldI lv 1 (fun x => Y4 d Q 5 lv (.int x :: st) σ) := yX_at (.iload_n 1, 1, 0, 0, 0, 0, []) rfl
theorem g4_5 {j : Int32} {c : Nat} : Y4 d Q 5 lv (.int j :: .ref c :: st) σ ↔ (zK c = 100 ∧ vp_in j (zLn c)) ∧ Y4 d Q 6 lv (.int (σ.1 c j.toNatClampNeg) :: st) σ := yX_at (.iaload, 1, 0, 0, 0, 0, []) rfl
theorem g4_6 {x : Int32} : Y4 d Q 6 lv (.int x :: st) σ ↔ Y4 d Q 7 lv (.long x.toInt64 :: st) σ := yX_at (.i2l, 1, 0, 0, 0, 0, []) rfl
theorem g4_7  : Y4 d Q 7 lv st σ ↔ zldI lv 2 (fun x => Y4 d Q 8 lv (.int x :: st) σ) := yX_at (.iload_n 2, 1, 0, 0, 0, 0, []) rfl
theorem g4_8  : Y4 d Q 8 lv st σ ↔ Y4 d Q 9 lv (.int 1 :: st) σ := yX_at (.iconst 1, 1, 0, 0, 0, 0, []) rfl
theorem g4_9 {x y : Int32} : Y4 d Q 9 lv (.int y :: .int x :: st) σ ↔ Y4 d Q 10 lv (.int (x - y) :: st) σ := yX_at (.isub, 1, 0, 0, 0, 0, []) rfl
theorem g4_10 {v0 : Value} : Y4 d Q 10 lv (v0 :: st) σ ↔ zrm st ∧ ∃ rv σ', yE d 10 [v0] σ rv σ' ∧ Y4 d Q 13 lv (rv.toList ++ st) σ' := yX_at (.invokestatic 51, 3, 10, 1, 10, 0, []) rfl
theorem g4_13 {x y : Int64} : Y4 d Q 13 lv (.long y :: .long x :: st) σ ↔ Y4 d Q 14 lv (.long (x * y) :: st) σ := yX_at (.lmul, 1, 0, 0, 0, 0, []) rfl
theorem g4_14  : Y4 d Q 14 lv st σ ↔ zldR lv 0 (fun x => Y4 d Q 15 lv (.ref x :: st) σ) := yX_at (.aload_n 0, 1, 0, 0, 0, 0, []) rfl
theorem g4_15 {c : Nat} : Y4 d Q 15 lv (.ref c :: st) σ ↔ zK c = 0 ∧ Y4 d Q 18 lv (zfv σ c 4 :: st) σ := yX_at (.getfield 27, 3, 0, 4, 4, 0, []) rfl
theorem g4_18  : Y4 d Q 18 lv st σ ↔ zldI lv 2 (fun x => Y4 d Q 19 lv (.int x :: st) σ) := yX_at (.iload_n 2, 1, 0, 0, 0, 0, []) rfl
theorem g4_19  : Y4 d Q 19 lv st σ ↔ Y4 d Q 20 lv (.int 1 :: st) σ := yX_at (.iconst 1, 1, 0, 0, 0, 0, []) rfl
theorem g4_20 {x y : Int32} : Y4 d Q 20 lv (.int y :: .int x :: st) σ ↔ Y4 d Q 21 lv (.int (x - y) :: st) σ := yX_at (.isub, 1, 0, 0, 0, 0, []) rfl
theorem g4_21 {j : Int32} {c : Nat} : Y4 d Q 21 lv (.int j :: .ref c :: st) σ ↔ ((zK c = 104 ∨ zK c = 105) ∧ vp_in j (zLn c)) ∧ Y4 d Q 22 lv (.ref (zR c j.toNatClampNeg) :: st) σ := yX_at (.aaload, 1, 0, 0, 0, 0, []) rfl
theorem g4_22  : Y4 d Q 22 lv st σ ↔ zldR lv 0 (fun x => Y4 d Q 23 lv (.ref x :: st) σ) := yX_at (.aload_n 0, 1, 0, 0, 0, 0, []) rfl
theorem g4_23  : Y4 d Q 23 lv st σ ↔ zldI lv 1 (fun x => Y4 d Q 24 lv (.int x :: st) σ) := yX_at (.iload_n 1, 1, 0, 0, 0, 0, []) rfl
theorem g4_24  : Y4 d Q 24 lv st σ ↔ zldI lv 3 (fun x => Y4 d Q 25 lv (.int x :: st) σ) := yX_at (.iload_n 3, 1, 0, 0, 0, 0, []) rfl
theorem g4_25 {v0 v1 : Value} {c : Nat} : Y4 d Q 25 lv (v1 :: v0 :: .ref c :: st) σ ↔ (zrcv 0 c ∧ zrm st) ∧ ∃ rv σ', yE d 6 [.ref c, v0, v1] σ rv σ' ∧ Y4 d Q 28 lv (rv.toList ++ st) σ' := yX_at (.invokevirtual 55, 3, 6, 2, 11, 0, []) rfl
theorem g4_28 {j : Int32} {c : Nat} : Y4 d Q 28 lv (.int j :: .ref c :: st) σ ↔ (zK c = 103 ∧ vp_in j (zLn c)) ∧ Y4 d Q 29 lv (.long (σ.2.1 c j.toNatClampNeg) :: st) σ := yX_at (.laload, 1, 0, 0, 0, 0, []) rfl
theorem g4_29 {x y : Int64} : Y4 d Q 29 lv (.long y :: .long x :: st) σ ↔ Y4 d Q 30 lv (.long (x + y) :: st) σ := yX_at (.ladd, 1, 0, 0, 0, 0, []) rfl
theorem g4_30 {x : Int64} : Y4 d Q 30 lv [.long x] σ ↔ Q (some (.long x)) σ := yX_at (.lreturn, 1, 0, 0, 0, 0, []) rfl
end G4
def Y5 (d : Nat) (Q : Option Value → zSt → Prop) (pc : Nat) (lv : zLv) (st : List Value) (σ : zSt) : Prop := yX (yE d) ySn zt5 Q pc lv st σ
theorem C5 {d : Nat} {as : List Value} {σ : zSt} {P : Option Value → zSt → Prop} (hl : (lg_sl as).length ≤ 1) (h : Y5 d P 0 (lv_args 0 as) [] σ) : yC (d + 1) 5 as σ P := yC_of (by decide) hl h
section G5
variable {d : Nat} {Q : Option Value → zSt → Prop} {lv : zLv} {st : List Value} {σ : zSt}
theorem g5_0  : Y5 d Q 0 lv st σ ↔ zldI lv 0 (fun x => Y5 d Q 1 lv (.int x :: st) σ) := yX_at (.iload_n 0, 1, 0, 0, 0, 0, []) rfl
theorem g5_1  : Y5 d Q 1 lv st σ ↔ Y5 d Q 2 lv (.int 2 :: st) σ := yX_at (.iconst 2, 1, 0, 0, 0, 0, []) rfl
theorem g5_2 {x y : Int32} : Y5 d Q 2 lv (.int y :: .int x :: st) σ ↔ (¬ y = 0) ∧ Y5 d Q 3 lv (.int (x - x / y * y) :: st) σ := yX_at (.irem, 1, 0, 0, 0, 0, []) rfl
theorem g5_3  : Y5 d Q 3 lv st σ ↔ Y5 d Q 4 lv (.int 2 :: st) σ := yX_at (.iconst 2, 1, 0, 0, 0, 0, []) rfl
theorem g5_4 {x y : Int32} : Y5 d Q 4 lv (.int y :: .int x :: st) σ ↔ Y5 d Q 5 lv (.int (x * y) :: st) σ := yX_at (.imul, 1, 0, 0, 0, 0, []) rfl
theorem g5_5 {x : Int32} : Y5 d Q 5 lv [.int x] σ ↔ Q (some (.int x)) σ := yX_at (.ireturn, 1, 0, 0, 0, 0, []) rfl
end G5
def Y6 (d : Nat) (Q : Option Value → zSt → Prop) (pc : Nat) (lv : zLv) (st : List Value) (σ : zSt) : Prop := yX (yE d) ySn zt6 Q pc lv st σ
theorem C6 {d : Nat} {as : List Value} {σ : zSt} {P : Option Value → zSt → Prop} (hl : (lg_sl as).length ≤ 3) (h : Y6 d P 0 (lv_args 0 as) [] σ) : yC (d + 1) 6 as σ P := yC_of (by decide) hl h
section G6
variable {d : Nat} {Q : Option Value → zSt → Prop} {lv : zLv} {st : List Value} {σ : zSt}
theorem g6_0  : Y6 d Q 0 lv st σ ↔ zldR lv 0 (fun x => Y6 d Q 1 lv (.ref x :: st) σ) := yX_at (.aload_n 0, 1, 0, 0, 0, 0, []) rfl
theorem g6_1 {c : Nat} : Y6 d Q 1 lv (.ref c :: st) σ ↔ zK c = 0 ∧ Y6 d Q 4 lv (zfv σ c 2 :: st) σ := yX_at (.getfield 18, 3, 0, 2, 2, 0, []) rfl
theorem g6_4  : Y6 d Q 4 lv st σ ↔ zldI lv 1 (fun x => Y6 d Q 5 lv (.int x :: st) σ) := yX_at (.iload_n 1, 1, 0, 0, 0, 0, []) rfl
theorem g6_5 {j : Int32} {c : Nat} : Y6 d Q 5 lv (.int j :: .ref c :: st) σ ↔ (zK c = 100 ∧ vp_in j (zLn c)) ∧ Y6 d Q 6 lv (.int (σ.1 c j.toNatClampNeg) :: st) σ := yX_at (.iaload, 1, 0, 0, 0, 0, []) rfl
theorem g6_6 {x : Int32} : Y6 d Q 6 lv (.int x :: st) σ ↔ (x = 2 → Y6 d Q 32 lv st σ) ∧ (¬ x = 2 → ((x = 3 → Y6 d Q 39 lv st σ) ∧ (¬ x = 3 → (Y6 d Q 46 lv st σ)))) := yX_at (.lookupswitch 40 #[(2, 26), (3, 33)], 26, 46, 0, 0, 0, [(2, 32), (3, 39)]) rfl
theorem g6_32  : Y6 d Q 32 lv st σ ↔ zldI lv 2 (fun x => Y6 d Q 33 lv (.int x :: st) σ) := yX_at (.iload_n 2, 1, 0, 0, 0, 0, []) rfl
theorem g6_33 {v0 : Value} : Y6 d Q 33 lv (v0 :: st) σ ↔ zrm st ∧ ∃ rv σ', yE d 5 [v0] σ rv σ' ∧ Y6 d Q 36 lv (rv.toList ++ st) σ' := yX_at (.invokestatic 34, 3, 5, 1, 6, 0, []) rfl
theorem g6_36  : Y6 d Q 36 lv st σ ↔ Y6 d Q 37 lv (.int 2 :: st) σ := yX_at (.iconst 2, 1, 0, 0, 0, 0, []) rfl
theorem g6_37 {x y : Int32} : Y6 d Q 37 lv (.int y :: .int x :: st) σ ↔ Y6 d Q 38 lv (.int (x + y) :: st) σ := yX_at (.iadd, 1, 0, 0, 0, 0, []) rfl
theorem g6_38 {x : Int32} : Y6 d Q 38 lv [.int x] σ ↔ Q (some (.int x)) σ := yX_at (.ireturn, 1, 0, 0, 0, 0, []) rfl
theorem g6_39  : Y6 d Q 39 lv st σ ↔ zldI lv 2 (fun x => Y6 d Q 40 lv (.int x :: st) σ) := yX_at (.iload_n 2, 1, 0, 0, 0, 0, []) rfl
theorem g6_40 {v0 : Value} : Y6 d Q 40 lv (v0 :: st) σ ↔ zrm st ∧ ∃ rv σ', yE d 5 [v0] σ rv σ' ∧ Y6 d Q 43 lv (rv.toList ++ st) σ' := yX_at (.invokestatic 34, 3, 5, 1, 6, 0, []) rfl
theorem g6_43  : Y6 d Q 43 lv st σ ↔ Y6 d Q 44 lv (.int 1 :: st) σ := yX_at (.iconst 1, 1, 0, 0, 0, 0, []) rfl
theorem g6_44 {x y : Int32} : Y6 d Q 44 lv (.int y :: .int x :: st) σ ↔ Y6 d Q 45 lv (.int (x + y) :: st) σ := yX_at (.iadd, 1, 0, 0, 0, 0, []) rfl
theorem g6_45 {x : Int32} : Y6 d Q 45 lv [.int x] σ ↔ Q (some (.int x)) σ := yX_at (.ireturn, 1, 0, 0, 0, 0, []) rfl
theorem g6_46  : Y6 d Q 46 lv st σ ↔ zldI lv 2 (fun x => Y6 d Q 47 lv (.int x :: st) σ) := yX_at (.iload_n 2, 1, 0, 0, 0, 0, []) rfl
theorem g6_47 {v0 : Value} : Y6 d Q 47 lv (v0 :: st) σ ↔ zrm st ∧ ∃ rv σ', yE d 5 [v0] σ rv σ' ∧ Y6 d Q 50 lv (rv.toList ++ st) σ' := yX_at (.invokestatic 34, 3, 5, 1, 6, 0, []) rfl
theorem g6_50 {x : Int32} : Y6 d Q 50 lv [.int x] σ ↔ Q (some (.int x)) σ := yX_at (.ireturn, 1, 0, 0, 0, 0, []) rfl
end G6
def Y7 (d : Nat) (Q : Option Value → zSt → Prop) (pc : Nat) (lv : zLv) (st : List Value) (σ : zSt) : Prop := yX (yE d) ySn zt7 Q pc lv st σ
theorem C7 {d : Nat} {as : List Value} {σ : zSt} {P : Option Value → zSt → Prop} (hl : (lg_sl as).length ≤ 3) (h : Y7 d P 0 (lv_args 0 as) [] σ) : yC (d + 1) 7 as σ P := yC_of (by decide) hl h
section G7
variable {d : Nat} {Q : Option Value → zSt → Prop} {lv : zLv} {st : List Value} {σ : zSt}
theorem g7_0  : Y7 d Q 0 lv st σ ↔ zldR lv 0 (fun x => Y7 d Q 1 lv (.ref x :: st) σ) := yX_at (.aload_n 0, 1, 0, 0, 0, 0, []) rfl
theorem g7_1  : Y7 d Q 1 lv st σ ↔ zldI lv 1 (fun x => Y7 d Q 2 lv (.int x :: st) σ) := yX_at (.iload_n 1, 1, 0, 0, 0, 0, []) rfl
theorem g7_2  : Y7 d Q 2 lv st σ ↔ zldI lv 2 (fun x => Y7 d Q 3 lv (.int x :: st) σ) := yX_at (.iload_n 2, 1, 0, 0, 0, 0, []) rfl
theorem g7_3  : Y7 d Q 3 lv st σ ↔ Y7 d Q 4 lv (.int 0 :: st) σ := yX_at (.iconst 0, 1, 0, 0, 0, 0, []) rfl
theorem g7_4 {v0 v1 v2 : Value} {c : Nat} : Y7 d Q 4 lv (v2 :: v1 :: v0 :: .ref c :: st) σ ↔ (zrcv 0 c ∧ zrm st) ∧ ∃ rv σ', yE d 4 [.ref c, v0, v1, v2] σ rv σ' ∧ Y7 d Q 7 lv (rv.toList ++ st) σ' := yX_at (.invokevirtual 42, 3, 4, 3, 8, 0, []) rfl
theorem g7_7  : Y7 d Q 7 lv st σ ↔ zldR lv 0 (fun x => Y7 d Q 8 lv (.ref x :: st) σ) := yX_at (.aload_n 0, 1, 0, 0, 0, 0, []) rfl
theorem g7_8 {c : Nat} : Y7 d Q 8 lv (.ref c :: st) σ ↔ zK c = 0 ∧ Y7 d Q 11 lv (zfv σ c 4 :: st) σ := yX_at (.getfield 27, 3, 0, 4, 4, 0, []) rfl
theorem g7_11  : Y7 d Q 11 lv st σ ↔ zldI lv 2 (fun x => Y7 d Q 12 lv (.int x :: st) σ) := yX_at (.iload_n 2, 1, 0, 0, 0, 0, []) rfl
theorem g7_12  : Y7 d Q 12 lv st σ ↔ Y7 d Q 13 lv (.int 1 :: st) σ := yX_at (.iconst 1, 1, 0, 0, 0, 0, []) rfl
theorem g7_13 {x y : Int32} : Y7 d Q 13 lv (.int y :: .int x :: st) σ ↔ Y7 d Q 14 lv (.int (x - y) :: st) σ := yX_at (.isub, 1, 0, 0, 0, 0, []) rfl
theorem g7_14 {j : Int32} {c : Nat} : Y7 d Q 14 lv (.int j :: .ref c :: st) σ ↔ ((zK c = 104 ∨ zK c = 105) ∧ vp_in j (zLn c)) ∧ Y7 d Q 15 lv (.ref (zR c j.toNatClampNeg) :: st) σ := yX_at (.aaload, 1, 0, 0, 0, 0, []) rfl
theorem g7_15  : Y7 d Q 15 lv st σ ↔ Y7 d Q 16 lv (.int 0 :: st) σ := yX_at (.iconst 0, 1, 0, 0, 0, 0, []) rfl
theorem g7_16 {j : Int32} {c : Nat} : Y7 d Q 16 lv (.int j :: .ref c :: st) σ ↔ (zK c = 103 ∧ vp_in j (zLn c)) ∧ Y7 d Q 17 lv (.long (σ.2.1 c j.toNatClampNeg) :: st) σ := yX_at (.laload, 1, 0, 0, 0, 0, []) rfl
theorem g7_17 {x y : Int64} : Y7 d Q 17 lv (.long y :: .long x :: st) σ ↔ Y7 d Q 18 lv (.int (lg_cmp x y) :: st) σ := yX_at (.lcmp, 1, 0, 0, 0, 0, []) rfl
theorem g7_18 {x : Int32} : Y7 d Q 18 lv (.int x :: st) σ ↔ (x < 0 → Y7 d Q 25 lv st σ) ∧ (¬ x < 0 → Y7 d Q 21 lv st σ) := yX_at (.ifCond .lt 7, 3, 25, 0, 0, 0, []) rfl
theorem g7_21  : Y7 d Q 21 lv st σ ↔ Y7 d Q 22 lv (.int 1 :: st) σ := yX_at (.iconst 1, 1, 0, 0, 0, 0, []) rfl
theorem g7_22  : Y7 d Q 22 lv st σ ↔ Y7 d Q 26 lv st σ := yX_at (.goto 4, 3, 26, 0, 0, 0, []) rfl
theorem g7_25  : Y7 d Q 25 lv st σ ↔ Y7 d Q 26 lv (.int 0 :: st) σ := yX_at (.iconst 0, 1, 0, 0, 0, 0, []) rfl
theorem g7_26 {x : Int32} : Y7 d Q 26 lv [.int x] σ ↔ (x = 0 ∨ x = 1) ∧ Q (some (.int x)) σ := yX_at (.ireturn, 1, 1, 0, 0, 0, []) rfl
end G7
def Y8 (d : Nat) (Q : Option Value → zSt → Prop) (pc : Nat) (lv : zLv) (st : List Value) (σ : zSt) : Prop := yX (yE d) ySn zt8 Q pc lv st σ
theorem C8 {d : Nat} {as : List Value} {σ : zSt} {P : Option Value → zSt → Prop} (hl : (lg_sl as).length ≤ 3) (h : Y8 d P 0 (lv_args 0 as) [] σ) : yC (d + 1) 8 as σ P := yC_of (by decide) hl h
section G8
variable {d : Nat} {Q : Option Value → zSt → Prop} {lv : zLv} {st : List Value} {σ : zSt}
theorem g8_0  : Y8 d Q 0 lv st σ ↔ zldR lv 0 (fun x => Y8 d Q 1 lv (.ref x :: st) σ) := yX_at (.aload_n 0, 1, 0, 0, 0, 0, []) rfl
theorem g8_1  : Y8 d Q 1 lv st σ ↔ zldR lv 0 (fun x => Y8 d Q 2 lv (.ref x :: st) σ) := yX_at (.aload_n 0, 1, 0, 0, 0, 0, []) rfl
theorem g8_2 {c : Nat} : Y8 d Q 2 lv (.ref c :: st) σ ↔ zK c = 0 ∧ Y8 d Q 5 lv (zfv σ c 4 :: st) σ := yX_at (.getfield 27, 3, 0, 4, 4, 0, []) rfl
theorem g8_5  : Y8 d Q 5 lv st σ ↔ zldI lv 1 (fun x => Y8 d Q 6 lv (.int x :: st) σ) := yX_at (.iload_n 1, 1, 0, 0, 0, 0, []) rfl
theorem g8_6 {j : Int32} {c : Nat} : Y8 d Q 6 lv (.int j :: .ref c :: st) σ ↔ ((zK c = 104 ∨ zK c = 105) ∧ vp_in j (zLn c)) ∧ Y8 d Q 7 lv (.ref (zR c j.toNatClampNeg) :: st) σ := yX_at (.aaload, 1, 0, 0, 0, 0, []) rfl
theorem g8_7  : Y8 d Q 7 lv st σ ↔ Y8 d Q 8 lv (.int 0 :: st) σ := yX_at (.iconst 0, 1, 0, 0, 0, 0, []) rfl
theorem g8_8 {j : Int32} {c : Nat} : Y8 d Q 8 lv (.int j :: .ref c :: st) σ ↔ (zK c = 103 ∧ vp_in j (zLn c)) ∧ Y8 d Q 9 lv (.long (σ.2.1 c j.toNatClampNeg) :: st) σ := yX_at (.laload, 1, 0, 0, 0, 0, []) rfl
theorem g8_9 {x : Int64} {c : Nat} : Y8 d Q 9 lv (.long x :: .ref c :: st) σ ↔ zK c = 0 ∧ Y8 d Q 12 lv st (zwJ σ c 5 x) := yX_at (.putfield 59, 3, 0, 5, 12, 0, []) rfl
theorem g8_12  : Y8 d Q 12 lv st σ ↔ zldR lv 0 (fun x => Y8 d Q 13 lv (.ref x :: st) σ) := yX_at (.aload_n 0, 1, 0, 0, 0, 0, []) rfl
theorem g8_13  : Y8 d Q 13 lv st σ ↔ zldI lv 1 (fun x => Y8 d Q 14 lv (.int x :: st) σ) := yX_at (.iload_n 1, 1, 0, 0, 0, 0, []) rfl
theorem g8_14 {v0 : Value} : Y8 d Q 14 lv (v0 :: st) σ ↔ zrm st ∧ ∃ rv σ', yE d 10 [v0] σ rv σ' ∧ Y8 d Q 17 lv (rv.toList ++ st) σ' := yX_at (.invokestatic 51, 3, 10, 1, 10, 0, []) rfl
theorem g8_17 {x : Int64} {c : Nat} : Y8 d Q 17 lv (.long x :: .ref c :: st) σ ↔ zK c = 0 ∧ Y8 d Q 20 lv st (zwJ σ c 6 x) := yX_at (.putfield 63, 3, 0, 6, 13, 0, []) rfl
theorem g8_20  : Y8 d Q 20 lv st σ ↔ Y8 d Q 21 lv (.int 0 :: st) σ := yX_at (.iconst 0, 1, 0, 0, 0, 0, []) rfl
theorem g8_21 {x : Int32} : Y8 d Q 21 lv (.int x :: st) σ ↔ Y8 d Q 22 (zs1 2 (.int x) lv) st σ := yX_at (.istore_n 2, 1, 0, 0, 0, 0, []) rfl
theorem g8_22  : Y8 d Q 22 lv st σ ↔ zldI lv 2 (fun x => Y8 d Q 23 lv (.int x :: st) σ) := yX_at (.iload_n 2, 1, 0, 0, 0, 0, []) rfl
theorem g8_23  : Y8 d Q 23 lv st σ ↔ zldI lv 1 (fun x => Y8 d Q 24 lv (.int x :: st) σ) := yX_at (.iload_n 1, 1, 0, 0, 0, 0, []) rfl
theorem g8_24 {x y : Int32} : Y8 d Q 24 lv (.int y :: .int x :: st) σ ↔ (y ≤ x → Y8 d Q 43 lv st σ) ∧ (¬ y ≤ x → Y8 d Q 27 lv st σ) := yX_at (.if_icmp .ge 19, 3, 43, 0, 0, 0, []) rfl
theorem g8_27  : Y8 d Q 27 lv st σ ↔ zldR lv 0 (fun x => Y8 d Q 28 lv (.ref x :: st) σ) := yX_at (.aload_n 0, 1, 0, 0, 0, 0, []) rfl
theorem g8_28  : Y8 d Q 28 lv st σ ↔ Y8 d Q 29 lv (.int 2 :: st) σ := yX_at (.iconst 2, 1, 0, 0, 0, 0, []) rfl
theorem g8_29 {v0 : Value} {c : Nat} : Y8 d Q 29 lv (v0 :: .ref c :: st) σ ↔ (zrcv 0 c ∧ zrm st) ∧ ∃ rv σ', yE d 9 [.ref c, v0] σ rv σ' ∧ Y8 d Q 32 lv (rv.toList ++ st) σ' := yX_at (.invokevirtual 66, 3, 9, 1, 14, 0, []) rfl
theorem g8_32  : Y8 d Q 32 lv st σ ↔ zldR lv 0 (fun x => Y8 d Q 33 lv (.ref x :: st) σ) := yX_at (.aload_n 0, 1, 0, 0, 0, 0, []) rfl
theorem g8_33  : Y8 d Q 33 lv st σ ↔ Y8 d Q 34 lv (.int 5 :: st) σ := yX_at (.iconst 5, 1, 0, 0, 0, 0, []) rfl
theorem g8_34 {v0 : Value} {c : Nat} : Y8 d Q 34 lv (v0 :: .ref c :: st) σ ↔ (zrcv 0 c ∧ zrm st) ∧ ∃ rv σ', yE d 9 [.ref c, v0] σ rv σ' ∧ Y8 d Q 37 lv (rv.toList ++ st) σ' := yX_at (.invokevirtual 66, 3, 9, 1, 14, 0, []) rfl
theorem g8_37  : Y8 d Q 37 lv st σ ↔ zldI lv 2 (fun x => Y8 d Q 40 (zs1 2 (.int (x + 1)) lv) st σ) := yX_at (.iinc 2 1, 3, 0, 0, 0, 0, []) rfl
theorem g8_40  : Y8 d Q 40 lv st σ ↔ Y8 d Q 22 lv st σ := yX_at (.goto (-18), 3, 22, 0, 0, 0, []) rfl
theorem g8_43  : Y8 d Q 43 lv [] σ ↔ Q none σ := yX_at (.return_, 1, 0, 0, 0, 0, []) rfl
end G8
def Y9 (d : Nat) (Q : Option Value → zSt → Prop) (pc : Nat) (lv : zLv) (st : List Value) (σ : zSt) : Prop := yX (yE d) ySn zt9 Q pc lv st σ
theorem C9 {d : Nat} {as : List Value} {σ : zSt} {P : Option Value → zSt → Prop} (hl : (lg_sl as).length ≤ 2) (h : Y9 d P 0 (lv_args 0 as) [] σ) : yC (d + 1) 9 as σ P := yC_of (by decide) hl h
section G9
variable {d : Nat} {Q : Option Value → zSt → Prop} {lv : zLv} {st : List Value} {σ : zSt}
theorem g9_0  : Y9 d Q 0 lv st σ ↔ zldR lv 0 (fun x => Y9 d Q 1 lv (.ref x :: st) σ) := yX_at (.aload_n 0, 1, 0, 0, 0, 0, []) rfl
theorem g9_1 {c : Nat} : Y9 d Q 1 lv (.ref c :: st) σ ↔ zK c = 0 ∧ Y9 d Q 4 lv (zfv σ c 5 :: st) σ := yX_at (.getfield 59, 3, 0, 5, 12, 0, []) rfl
theorem g9_4  : Y9 d Q 4 lv st σ ↔ zldI lv 1 (fun x => Y9 d Q 5 lv (.int x :: st) σ) := yX_at (.iload_n 1, 1, 0, 0, 0, 0, []) rfl
theorem g9_5 {x : Int32} : Y9 d Q 5 lv (.int x :: st) σ ↔ Y9 d Q 6 lv (.long x.toInt64 :: st) σ := yX_at (.i2l, 1, 0, 0, 0, 0, []) rfl
theorem g9_6 {x y : Int64} : Y9 d Q 6 lv (.long y :: .long x :: st) σ ↔ (¬ y = 0) ∧ Y9 d Q 7 lv (.long (x - x / y * y) :: st) σ := yX_at (.lrem, 1, 0, 0, 0, 0, []) rfl
theorem g9_7  : Y9 d Q 7 lv st σ ↔ Y9 d Q 8 lv (.long 0 :: st) σ := yX_at (.lconst 0, 1, 0, 0, 0, 0, []) rfl
theorem g9_8 {x y : Int64} : Y9 d Q 8 lv (.long y :: .long x :: st) σ ↔ Y9 d Q 9 lv (.int (lg_cmp x y) :: st) σ := yX_at (.lcmp, 1, 0, 0, 0, 0, []) rfl
theorem g9_9 {x : Int32} : Y9 d Q 9 lv (.int x :: st) σ ↔ (¬ x = 0 → Y9 d Q 46 lv st σ) ∧ (x = 0 → Y9 d Q 12 lv st σ) := yX_at (.ifCond .ne 37, 3, 46, 0, 0, 0, []) rfl
theorem g9_12  : Y9 d Q 12 lv st σ ↔ zldR lv 0 (fun x => Y9 d Q 13 lv (.ref x :: st) σ) := yX_at (.aload_n 0, 1, 0, 0, 0, 0, []) rfl
theorem g9_13 {c : Nat} : Y9 d Q 13 lv (.ref c :: st) σ ↔ zK c = 0 ∧ Y9 d Q 16 lv (zfv σ c 6 :: st) σ := yX_at (.getfield 63, 3, 0, 6, 13, 0, []) rfl
theorem g9_16  : Y9 d Q 16 lv st σ ↔ zldI lv 1 (fun x => Y9 d Q 17 lv (.int x :: st) σ) := yX_at (.iload_n 1, 1, 0, 0, 0, 0, []) rfl
theorem g9_17 {x : Int32} : Y9 d Q 17 lv (.int x :: st) σ ↔ Y9 d Q 18 lv (.long x.toInt64 :: st) σ := yX_at (.i2l, 1, 0, 0, 0, 0, []) rfl
theorem g9_18 {x y : Int64} : Y9 d Q 18 lv (.long y :: .long x :: st) σ ↔ (¬ y = 0) ∧ Y9 d Q 19 lv (.long (x - x / y * y) :: st) σ := yX_at (.lrem, 1, 0, 0, 0, 0, []) rfl
theorem g9_19  : Y9 d Q 19 lv st σ ↔ Y9 d Q 20 lv (.long 0 :: st) σ := yX_at (.lconst 0, 1, 0, 0, 0, 0, []) rfl
theorem g9_20 {x y : Int64} : Y9 d Q 20 lv (.long y :: .long x :: st) σ ↔ Y9 d Q 21 lv (.int (lg_cmp x y) :: st) σ := yX_at (.lcmp, 1, 0, 0, 0, 0, []) rfl
theorem g9_21 {x : Int32} : Y9 d Q 21 lv (.int x :: st) σ ↔ (¬ x = 0 → Y9 d Q 46 lv st σ) ∧ (x = 0 → Y9 d Q 24 lv st σ) := yX_at (.ifCond .ne 25, 3, 46, 0, 0, 0, []) rfl
theorem g9_24  : Y9 d Q 24 lv st σ ↔ zldR lv 0 (fun x => Y9 d Q 25 lv (.ref x :: st) σ) := yX_at (.aload_n 0, 1, 0, 0, 0, 0, []) rfl
theorem g9_25  : Y9 d Q 25 lv st σ ↔ zdup st (fun r => Y9 d Q 26 lv r σ) := yX_at (.dup, 1, 0, 0, 0, 0, []) rfl
theorem g9_26 {c : Nat} : Y9 d Q 26 lv (.ref c :: st) σ ↔ zK c = 0 ∧ Y9 d Q 29 lv (zfv σ c 5 :: st) σ := yX_at (.getfield 59, 3, 0, 5, 12, 0, []) rfl
theorem g9_29  : Y9 d Q 29 lv st σ ↔ zldI lv 1 (fun x => Y9 d Q 30 lv (.int x :: st) σ) := yX_at (.iload_n 1, 1, 0, 0, 0, 0, []) rfl
theorem g9_30 {x : Int32} : Y9 d Q 30 lv (.int x :: st) σ ↔ Y9 d Q 31 lv (.long x.toInt64 :: st) σ := yX_at (.i2l, 1, 0, 0, 0, 0, []) rfl
theorem g9_31 {x y : Int64} : Y9 d Q 31 lv (.long y :: .long x :: st) σ ↔ (¬ y = 0) ∧ Y9 d Q 32 lv (.long (x / y) :: st) σ := yX_at (.ldiv, 1, 0, 0, 0, 0, []) rfl
theorem g9_32 {x : Int64} {c : Nat} : Y9 d Q 32 lv (.long x :: .ref c :: st) σ ↔ zK c = 0 ∧ Y9 d Q 35 lv st (zwJ σ c 5 x) := yX_at (.putfield 59, 3, 0, 5, 12, 0, []) rfl
theorem g9_35  : Y9 d Q 35 lv st σ ↔ zldR lv 0 (fun x => Y9 d Q 36 lv (.ref x :: st) σ) := yX_at (.aload_n 0, 1, 0, 0, 0, 0, []) rfl
theorem g9_36  : Y9 d Q 36 lv st σ ↔ zdup st (fun r => Y9 d Q 37 lv r σ) := yX_at (.dup, 1, 0, 0, 0, 0, []) rfl
theorem g9_37 {c : Nat} : Y9 d Q 37 lv (.ref c :: st) σ ↔ zK c = 0 ∧ Y9 d Q 40 lv (zfv σ c 6 :: st) σ := yX_at (.getfield 63, 3, 0, 6, 13, 0, []) rfl
theorem g9_40  : Y9 d Q 40 lv st σ ↔ zldI lv 1 (fun x => Y9 d Q 41 lv (.int x :: st) σ) := yX_at (.iload_n 1, 1, 0, 0, 0, 0, []) rfl
theorem g9_41 {x : Int32} : Y9 d Q 41 lv (.int x :: st) σ ↔ Y9 d Q 42 lv (.long x.toInt64 :: st) σ := yX_at (.i2l, 1, 0, 0, 0, 0, []) rfl
theorem g9_42 {x y : Int64} : Y9 d Q 42 lv (.long y :: .long x :: st) σ ↔ (¬ y = 0) ∧ Y9 d Q 43 lv (.long (x / y) :: st) σ := yX_at (.ldiv, 1, 0, 0, 0, 0, []) rfl
theorem g9_43 {x : Int64} {c : Nat} : Y9 d Q 43 lv (.long x :: .ref c :: st) σ ↔ zK c = 0 ∧ Y9 d Q 46 lv st (zwJ σ c 6 x) := yX_at (.putfield 63, 3, 0, 6, 13, 0, []) rfl
theorem g9_46  : Y9 d Q 46 lv [] σ ↔ Q none σ := yX_at (.return_, 1, 0, 0, 0, 0, []) rfl
end G9
def Y10 (d : Nat) (Q : Option Value → zSt → Prop) (pc : Nat) (lv : zLv) (st : List Value) (σ : zSt) : Prop := yX (yE d) ySn zt10 Q pc lv st σ
theorem C10 {d : Nat} {as : List Value} {σ : zSt} {P : Option Value → zSt → Prop} (hl : (lg_sl as).length ≤ 4) (h : Y10 d P 0 (lv_args 0 as) [] σ) : yC (d + 1) 10 as σ P := yC_of (by decide) hl h
section G10
variable {d : Nat} {Q : Option Value → zSt → Prop} {lv : zLv} {st : List Value} {σ : zSt}
theorem g10_0  : Y10 d Q 0 lv st σ ↔ Y10 d Q 1 lv (.long 1 :: st) σ := yX_at (.lconst 1, 1, 0, 0, 0, 0, []) rfl
theorem g10_1 {x : Int64} : Y10 d Q 1 lv (.long x :: st) σ ↔ Y10 d Q 2 (zs2 1 (.long x) lv) st σ := yX_at (.lstore_n 1, 1, 0, 0, 0, 0, []) rfl
theorem g10_2  : Y10 d Q 2 lv st σ ↔ Y10 d Q 3 lv (.int 0 :: st) σ := yX_at (.iconst 0, 1, 0, 0, 0, 0, []) rfl
theorem g10_3 {x : Int32} : Y10 d Q 3 lv (.int x :: st) σ ↔ Y10 d Q 4 (zs1 3 (.int x) lv) st σ := yX_at (.istore_n 3, 1, 0, 0, 0, 0, []) rfl
theorem g10_4  : Y10 d Q 4 lv st σ ↔ zldI lv 3 (fun x => Y10 d Q 5 lv (.int x :: st) σ) := yX_at (.iload_n 3, 1, 0, 0, 0, 0, []) rfl
theorem g10_5  : Y10 d Q 5 lv st σ ↔ zldI lv 0 (fun x => Y10 d Q 6 lv (.int x :: st) σ) := yX_at (.iload_n 0, 1, 0, 0, 0, 0, []) rfl
theorem g10_6 {x y : Int32} : Y10 d Q 6 lv (.int y :: .int x :: st) σ ↔ (y ≤ x → Y10 d Q 21 lv st σ) ∧ (¬ y ≤ x → Y10 d Q 9 lv st σ) := yX_at (.if_icmp .ge 15, 3, 21, 0, 0, 0, []) rfl
theorem g10_9  : Y10 d Q 9 lv st σ ↔ zldJ lv 1 (fun x => Y10 d Q 10 lv (.long x :: st) σ) := yX_at (.lload_n 1, 1, 0, 0, 0, 0, []) rfl
theorem g10_10  : Y10 d Q 10 lv st σ ↔ Y10 d Q 13 lv (.long 10 :: st) σ := yX_at (.ldc2_w 70, 3, 0, 0, 15, 10, []) rfl
theorem g10_13 {x y : Int64} : Y10 d Q 13 lv (.long y :: .long x :: st) σ ↔ Y10 d Q 14 lv (.long (x * y) :: st) σ := yX_at (.lmul, 1, 0, 0, 0, 0, []) rfl
theorem g10_14 {x : Int64} : Y10 d Q 14 lv (.long x :: st) σ ↔ Y10 d Q 15 (zs2 1 (.long x) lv) st σ := yX_at (.lstore_n 1, 1, 0, 0, 0, 0, []) rfl
theorem g10_15  : Y10 d Q 15 lv st σ ↔ zldI lv 3 (fun x => Y10 d Q 18 (zs1 3 (.int (x + 1)) lv) st σ) := yX_at (.iinc 3 1, 3, 0, 0, 0, 0, []) rfl
theorem g10_18  : Y10 d Q 18 lv st σ ↔ Y10 d Q 4 lv st σ := yX_at (.goto (-14), 3, 4, 0, 0, 0, []) rfl
theorem g10_21  : Y10 d Q 21 lv st σ ↔ zldJ lv 1 (fun x => Y10 d Q 22 lv (.long x :: st) σ) := yX_at (.lload_n 1, 1, 0, 0, 0, 0, []) rfl
theorem g10_22 {x : Int64} : Y10 d Q 22 lv [.long x] σ ↔ Q (some (.long x)) σ := yX_at (.lreturn, 1, 0, 0, 0, 0, []) rfl
end G10
def Y11 (d : Nat) (Q : Option Value → zSt → Prop) (pc : Nat) (lv : zLv) (st : List Value) (σ : zSt) : Prop := yX (yE d) ySn zt11 Q pc lv st σ
theorem C11 {d : Nat} {as : List Value} {σ : zSt} {P : Option Value → zSt → Prop} (hl : (lg_sl as).length ≤ 9) (h : Y11 d P 0 (lv_args 0 as) [] σ) : yC (d + 1) 11 as σ P := yC_of (by decide) hl h
section G11
variable {d : Nat} {Q : Option Value → zSt → Prop} {lv : zLv} {st : List Value} {σ : zSt}
theorem g11_0  : Y11 d Q 0 lv st σ ↔ zldR lv 1 (fun x => Y11 d Q 1 lv (.ref x :: st) σ) := yX_at (.aload_n 1, 1, 0, 0, 0, 0, []) rfl
theorem g11_1  : Y11 d Q 1 lv st σ ↔ zldI lv 2 (fun x => Y11 d Q 2 lv (.int x :: st) σ) := yX_at (.iload_n 2, 1, 0, 0, 0, 0, []) rfl
theorem g11_2  : Y11 d Q 2 lv st σ ↔ zldI lv 3 (fun x => Y11 d Q 3 lv (.int x :: st) σ) := yX_at (.iload_n 3, 1, 0, 0, 0, 0, []) rfl
theorem g11_3 {v0 v1 v2 : Value} : Y11 d Q 3 lv (v2 :: v1 :: v0 :: st) σ ↔ zrm st ∧ ∃ rv σ', yE d 12 [v0, v1, v2] σ rv σ' ∧ Y11 d Q 6 lv (rv.toList ++ st) σ' := yX_at (.invokestatic 15, 3, 12, 3, 16, 0, []) rfl
theorem g11_6 {x : Int32} : Y11 d Q 6 lv (.int x :: st) σ ↔ Y11 d Q 8 (zs1 6 (.int x) lv) st σ := yX_at (.istore 6, 2, 0, 0, 0, 0, []) rfl
theorem g11_8  : Y11 d Q 8 lv st σ ↔ zldR lv 0 (fun x => Y11 d Q 9 lv (.ref x :: st) σ) := yX_at (.aload_n 0, 1, 0, 0, 0, 0, []) rfl
theorem g11_9  : Y11 d Q 9 lv st σ ↔ Y11 d Q 10 lv (.int 0 :: st) σ := yX_at (.iconst 0, 1, 0, 0, 0, 0, []) rfl
theorem g11_10 {x : Int32} {c : Nat} : Y11 d Q 10 lv (.int x :: .ref c :: st) σ ↔ zK c = 1 ∧ Y11 d Q 13 lv st (zwI σ c 0 x) := yX_at (.putfield 19, 3, 1, 0, 17, 0, []) rfl
theorem g11_13  : Y11 d Q 13 lv st σ ↔ zldR lv 0 (fun x => Y11 d Q 14 lv (.ref x :: st) σ) := yX_at (.aload_n 0, 1, 0, 0, 0, 0, []) rfl
theorem g11_14  : Y11 d Q 14 lv st σ ↔ Y11 d Q 15 lv (.int 0 :: st) σ := yX_at (.iconst 0, 1, 0, 0, 0, 0, []) rfl
theorem g11_15 {x : Int32} {c : Nat} : Y11 d Q 15 lv (.int x :: .ref c :: st) σ ↔ zK c = 1 ∧ Y11 d Q 18 lv st (zwI σ c 1 x) := yX_at (.putfield 23, 3, 1, 1, 18, 0, []) rfl
theorem g11_18  : Y11 d Q 18 lv st σ ↔ Y11 d Q 19 lv (.int 1 :: st) σ := yX_at (.iconst 1, 1, 0, 0, 0, 0, []) rfl
theorem g11_19 {x : Int32} : Y11 d Q 19 lv (.int x :: st) σ ↔ Y11 d Q 21 (zs1 7 (.int x) lv) st σ := yX_at (.istore 7, 2, 0, 0, 0, 0, []) rfl
theorem g11_21  : Y11 d Q 21 lv st σ ↔ zldI lv 7 (fun x => Y11 d Q 23 lv (.int x :: st) σ) := yX_at (.iload 7, 2, 0, 0, 0, 0, []) rfl
theorem g11_23  : Y11 d Q 23 lv st σ ↔ zldI lv 6 (fun x => Y11 d Q 25 lv (.int x :: st) σ) := yX_at (.iload 6, 2, 0, 0, 0, 0, []) rfl
theorem g11_25 {x y : Int32} : Y11 d Q 25 lv (.int y :: .int x :: st) σ ↔ (y < x → Y11 d Q 91 lv st σ) ∧ (¬ y < x → Y11 d Q 28 lv st σ) := yX_at (.if_icmp .gt 66, 3, 91, 0, 0, 0, []) rfl
theorem g11_28  : Y11 d Q 28 lv st σ ↔ zldI lv 7 (fun x => Y11 d Q 30 lv (.int x :: st) σ) := yX_at (.iload 7, 2, 0, 0, 0, 0, []) rfl
theorem g11_30  : Y11 d Q 30 lv st σ ↔ zldI lv 6 (fun x => Y11 d Q 32 lv (.int x :: st) σ) := yX_at (.iload 6, 2, 0, 0, 0, 0, []) rfl
theorem g11_32  : Y11 d Q 32 lv st σ ↔ Y11 d Q 33 lv (.int (-1) :: st) σ := by
  rw [show (-1 : Int32) = Int32.ofInt (-1) from by decide]
  exact yX_at (.iconst (-1), 1, 0, 0, 0, 0, []) rfl
theorem g11_33 {x y : Int32} : Y11 d Q 33 lv (.int y :: .int x :: st) σ ↔ Y11 d Q 34 lv (.int (x ^^^ y) :: st) σ := yX_at (.ixor, 1, 0, 0, 0, 0, []) rfl
theorem g11_34 {x y : Int32} : Y11 d Q 34 lv (.int y :: .int x :: st) σ ↔ Y11 d Q 35 lv (.int (x &&& y) :: st) σ := yX_at (.iand, 1, 0, 0, 0, 0, []) rfl
theorem g11_35 {x : Int32} : Y11 d Q 35 lv (.int x :: st) σ ↔ (x = 0 → Y11 d Q 41 lv st σ) ∧ (¬ x = 0 → Y11 d Q 38 lv st σ) := yX_at (.ifCond .eq 6, 3, 41, 0, 0, 0, []) rfl
theorem g11_38  : Y11 d Q 38 lv st σ ↔ Y11 d Q 85 lv st σ := yX_at (.goto 47, 3, 85, 0, 0, 0, []) rfl
theorem g11_41  : Y11 d Q 41 lv st σ ↔ zldR lv 1 (fun x => Y11 d Q 42 lv (.ref x :: st) σ) := yX_at (.aload_n 1, 1, 0, 0, 0, 0, []) rfl
theorem g11_42  : Y11 d Q 42 lv st σ ↔ zldI lv 7 (fun x => Y11 d Q 44 lv (.int x :: st) σ) := yX_at (.iload 7, 2, 0, 0, 0, 0, []) rfl
theorem g11_44 {v0 v1 : Value} : Y11 d Q 44 lv (v1 :: v0 :: st) σ ↔ zrm st ∧ ∃ rv σ', yE d 13 [v0, v1] σ rv σ' ∧ Y11 d Q 47 lv (rv.toList ++ st) σ' := yX_at (.invokestatic 26, 3, 13, 2, 19, 0, []) rfl
theorem g11_47 {x : Int32} : Y11 d Q 47 lv (.int x :: st) σ ↔ Y11 d Q 49 (zs1 8 (.int x) lv) st σ := yX_at (.istore 8, 2, 0, 0, 0, 0, []) rfl
theorem g11_49  : Y11 d Q 49 lv st σ ↔ zldI lv 8 (fun x => Y11 d Q 51 lv (.int x :: st) σ) := yX_at (.iload 8, 2, 0, 0, 0, 0, []) rfl
theorem g11_51  : Y11 d Q 51 lv st σ ↔ zldR lv 0 (fun x => Y11 d Q 52 lv (.ref x :: st) σ) := yX_at (.aload_n 0, 1, 0, 0, 0, 0, []) rfl
theorem g11_52 {c : Nat} : Y11 d Q 52 lv (.ref c :: st) σ ↔ zK c = 1 ∧ Y11 d Q 55 lv (zfv σ c 0 :: st) σ := yX_at (.getfield 19, 3, 1, 0, 17, 0, []) rfl
theorem g11_55 {x y : Int32} : Y11 d Q 55 lv (.int y :: .int x :: st) σ ↔ (x ≤ y → Y11 d Q 85 lv st σ) ∧ (¬ x ≤ y → Y11 d Q 58 lv st σ) := yX_at (.if_icmp .le 30, 3, 85, 0, 0, 0, []) rfl
theorem g11_58  : Y11 d Q 58 lv st σ ↔ zldR lv 0 (fun x => Y11 d Q 59 lv (.ref x :: st) σ) := yX_at (.aload_n 0, 1, 0, 0, 0, 0, []) rfl
theorem g11_59  : Y11 d Q 59 lv st σ ↔ zldR lv 1 (fun x => Y11 d Q 60 lv (.ref x :: st) σ) := yX_at (.aload_n 1, 1, 0, 0, 0, 0, []) rfl
theorem g11_60  : Y11 d Q 60 lv st σ ↔ zldI lv 7 (fun x => Y11 d Q 62 lv (.int x :: st) σ) := yX_at (.iload 7, 2, 0, 0, 0, 0, []) rfl
theorem g11_62  : Y11 d Q 62 lv st σ ↔ zldI lv 3 (fun x => Y11 d Q 63 lv (.int x :: st) σ) := yX_at (.iload_n 3, 1, 0, 0, 0, 0, []) rfl
theorem g11_63  : Y11 d Q 63 lv st σ ↔ zldI lv 4 (fun x => Y11 d Q 65 lv (.int x :: st) σ) := yX_at (.iload 4, 2, 0, 0, 0, 0, []) rfl
theorem g11_65  : Y11 d Q 65 lv st σ ↔ zldI lv 5 (fun x => Y11 d Q 67 lv (.int x :: st) σ) := yX_at (.iload 5, 2, 0, 0, 0, 0, []) rfl
theorem g11_67 {v0 v1 v2 v3 v4 : Value} {c : Nat} : Y11 d Q 67 lv (v4 :: v3 :: v2 :: v1 :: v0 :: .ref c :: st) σ ↔ (zrcv 1 c ∧ zrm st) ∧ ∃ rv σ', yE d 14 [.ref c, v0, v1, v2, v3, v4] σ rv σ' ∧ Y11 d Q 70 lv (rv.toList ++ st) σ' := yX_at (.invokevirtual 30, 3, 14, 5, 20, 0, []) rfl
theorem g11_70 {x : Int32} : Y11 d Q 70 lv (.int x :: st) σ ↔ (x = 0 → Y11 d Q 85 lv st σ) ∧ (¬ x = 0 → Y11 d Q 73 lv st σ) := yX_at (.ifCond .eq 15, 3, 85, 0, 0, 0, []) rfl
theorem g11_73  : Y11 d Q 73 lv st σ ↔ zldR lv 0 (fun x => Y11 d Q 74 lv (.ref x :: st) σ) := yX_at (.aload_n 0, 1, 0, 0, 0, 0, []) rfl
theorem g11_74  : Y11 d Q 74 lv st σ ↔ zldI lv 8 (fun x => Y11 d Q 76 lv (.int x :: st) σ) := yX_at (.iload 8, 2, 0, 0, 0, 0, []) rfl
theorem g11_76 {x : Int32} {c : Nat} : Y11 d Q 76 lv (.int x :: .ref c :: st) σ ↔ zK c = 1 ∧ Y11 d Q 79 lv st (zwI σ c 0 x) := yX_at (.putfield 19, 3, 1, 0, 17, 0, []) rfl
theorem g11_79  : Y11 d Q 79 lv st σ ↔ zldR lv 0 (fun x => Y11 d Q 80 lv (.ref x :: st) σ) := yX_at (.aload_n 0, 1, 0, 0, 0, 0, []) rfl
theorem g11_80  : Y11 d Q 80 lv st σ ↔ zldI lv 7 (fun x => Y11 d Q 82 lv (.int x :: st) σ) := yX_at (.iload 7, 2, 0, 0, 0, 0, []) rfl
theorem g11_82 {x : Int32} {c : Nat} : Y11 d Q 82 lv (.int x :: .ref c :: st) σ ↔ zK c = 1 ∧ Y11 d Q 85 lv st (zwI σ c 1 x) := yX_at (.putfield 23, 3, 1, 1, 18, 0, []) rfl
theorem g11_85  : Y11 d Q 85 lv st σ ↔ zldI lv 7 (fun x => Y11 d Q 88 (zs1 7 (.int (x + 1)) lv) st σ) := yX_at (.iinc 7 1, 3, 0, 0, 0, 0, []) rfl
theorem g11_88  : Y11 d Q 88 lv st σ ↔ Y11 d Q 21 lv st σ := yX_at (.goto (-67), 3, 21, 0, 0, 0, []) rfl
theorem g11_91  : Y11 d Q 91 lv [] σ ↔ Q none σ := yX_at (.return_, 1, 0, 0, 0, 0, []) rfl
end G11
def Y12 (d : Nat) (Q : Option Value → zSt → Prop) (pc : Nat) (lv : zLv) (st : List Value) (σ : zSt) : Prop := yX (yE d) ySn zt12 Q pc lv st σ
theorem C12 {d : Nat} {as : List Value} {σ : zSt} {P : Option Value → zSt → Prop} (hl : (lg_sl as).length ≤ 5) (h : Y12 d P 0 (lv_args 0 as) [] σ) : yC (d + 1) 12 as σ P := yC_of (by decide) hl h
section G12
variable {d : Nat} {Q : Option Value → zSt → Prop} {lv : zLv} {st : List Value} {σ : zSt}
theorem g12_0  : Y12 d Q 0 lv st σ ↔ Y12 d Q 1 lv (.int 0 :: st) σ := yX_at (.iconst 0, 1, 0, 0, 0, 0, []) rfl
theorem g12_1 {x : Int32} : Y12 d Q 1 lv (.int x :: st) σ ↔ Y12 d Q 2 (zs1 3 (.int x) lv) st σ := yX_at (.istore_n 3, 1, 0, 0, 0, 0, []) rfl
theorem g12_2  : Y12 d Q 2 lv st σ ↔ Y12 d Q 3 lv (.int 0 :: st) σ := yX_at (.iconst 0, 1, 0, 0, 0, 0, []) rfl
theorem g12_3 {x : Int32} : Y12 d Q 3 lv (.int x :: st) σ ↔ Y12 d Q 5 (zs1 4 (.int x) lv) st σ := yX_at (.istore 4, 2, 0, 0, 0, 0, []) rfl
theorem g12_5  : Y12 d Q 5 lv st σ ↔ zldI lv 4 (fun x => Y12 d Q 7 lv (.int x :: st) σ) := yX_at (.iload 4, 2, 0, 0, 0, 0, []) rfl
theorem g12_7  : Y12 d Q 7 lv st σ ↔ zldR lv 0 (fun x => Y12 d Q 8 lv (.ref x :: st) σ) := yX_at (.aload_n 0, 1, 0, 0, 0, 0, []) rfl
theorem g12_8 {c : Nat} : Y12 d Q 8 lv (.ref c :: st) σ ↔ zK c = 5 ∧ Y12 d Q 11 lv (zfv σ c 4 :: st) σ := yX_at (.getfield 34, 3, 5, 4, 21, 0, []) rfl
theorem g12_11 {x y : Int32} : Y12 d Q 11 lv (.int y :: .int x :: st) σ ↔ (y ≤ x → Y12 d Q 49 lv st σ) ∧ (¬ y ≤ x → Y12 d Q 14 lv st σ) := yX_at (.if_icmp .ge 38, 3, 49, 0, 0, 0, []) rfl
theorem g12_14  : Y12 d Q 14 lv st σ ↔ zldR lv 0 (fun x => Y12 d Q 15 lv (.ref x :: st) σ) := yX_at (.aload_n 0, 1, 0, 0, 0, 0, []) rfl
theorem g12_15 {c : Nat} : Y12 d Q 15 lv (.ref c :: st) σ ↔ zK c = 5 ∧ Y12 d Q 18 lv (zfv σ c 5 :: st) σ := yX_at (.getfield 39, 3, 5, 5, 22, 0, []) rfl
theorem g12_18  : Y12 d Q 18 lv st σ ↔ zldI lv 4 (fun x => Y12 d Q 20 lv (.int x :: st) σ) := yX_at (.iload 4, 2, 0, 0, 0, 0, []) rfl
theorem g12_20 {j : Int32} {c : Nat} : Y12 d Q 20 lv (.int j :: .ref c :: st) σ ↔ (zK c = 100 ∧ vp_in j (zLn c)) ∧ Y12 d Q 21 lv (.int (σ.1 c j.toNatClampNeg) :: st) σ := yX_at (.iaload, 1, 0, 0, 0, 0, []) rfl
theorem g12_21  : Y12 d Q 21 lv st σ ↔ zldI lv 1 (fun x => Y12 d Q 22 lv (.int x :: st) σ) := yX_at (.iload_n 1, 1, 0, 0, 0, 0, []) rfl
theorem g12_22 {x y : Int32} : Y12 d Q 22 lv (.int y :: .int x :: st) σ ↔ (¬ x = y → Y12 d Q 43 lv st σ) ∧ (x = y → Y12 d Q 25 lv st σ) := yX_at (.if_icmp .ne 21, 3, 43, 0, 0, 0, []) rfl
theorem g12_25  : Y12 d Q 25 lv st σ ↔ zldR lv 0 (fun x => Y12 d Q 26 lv (.ref x :: st) σ) := yX_at (.aload_n 0, 1, 0, 0, 0, 0, []) rfl
theorem g12_26 {c : Nat} : Y12 d Q 26 lv (.ref c :: st) σ ↔ zK c = 5 ∧ Y12 d Q 29 lv (zfv σ c 6 :: st) σ := yX_at (.getfield 42, 3, 5, 6, 23, 0, []) rfl
theorem g12_29  : Y12 d Q 29 lv st σ ↔ zldI lv 4 (fun x => Y12 d Q 31 lv (.int x :: st) σ) := yX_at (.iload 4, 2, 0, 0, 0, 0, []) rfl
theorem g12_31 {j : Int32} {c : Nat} : Y12 d Q 31 lv (.int j :: .ref c :: st) σ ↔ (zK c = 100 ∧ vp_in j (zLn c)) ∧ Y12 d Q 32 lv (.int (σ.1 c j.toNatClampNeg) :: st) σ := yX_at (.iaload, 1, 0, 0, 0, 0, []) rfl
theorem g12_32  : Y12 d Q 32 lv st σ ↔ zldI lv 2 (fun x => Y12 d Q 33 lv (.int x :: st) σ) := yX_at (.iload_n 2, 1, 0, 0, 0, 0, []) rfl
theorem g12_33 {x y : Int32} : Y12 d Q 33 lv (.int y :: .int x :: st) σ ↔ (x < y → Y12 d Q 43 lv st σ) ∧ (¬ x < y → Y12 d Q 36 lv st σ) := yX_at (.if_icmp .lt 10, 3, 43, 0, 0, 0, []) rfl
theorem g12_36  : Y12 d Q 36 lv st σ ↔ zldI lv 3 (fun x => Y12 d Q 37 lv (.int x :: st) σ) := yX_at (.iload_n 3, 1, 0, 0, 0, 0, []) rfl
theorem g12_37  : Y12 d Q 37 lv st σ ↔ Y12 d Q 38 lv (.int 1 :: st) σ := yX_at (.iconst 1, 1, 0, 0, 0, 0, []) rfl
theorem g12_38  : Y12 d Q 38 lv st σ ↔ zldI lv 4 (fun x => Y12 d Q 40 lv (.int x :: st) σ) := yX_at (.iload 4, 2, 0, 0, 0, 0, []) rfl
theorem g12_40 {x y : Int32} : Y12 d Q 40 lv (.int y :: .int x :: st) σ ↔ Y12 d Q 41 lv (.int (x <<< (y &&& 31)) :: st) σ := yX_at (.ishl, 1, 0, 0, 0, 0, []) rfl
theorem g12_41 {x y : Int32} : Y12 d Q 41 lv (.int y :: .int x :: st) σ ↔ Y12 d Q 42 lv (.int (x ||| y) :: st) σ := yX_at (.ior, 1, 0, 0, 0, 0, []) rfl
theorem g12_42 {x : Int32} : Y12 d Q 42 lv (.int x :: st) σ ↔ Y12 d Q 43 (zs1 3 (.int x) lv) st σ := yX_at (.istore_n 3, 1, 0, 0, 0, 0, []) rfl
theorem g12_43  : Y12 d Q 43 lv st σ ↔ zldI lv 4 (fun x => Y12 d Q 46 (zs1 4 (.int (x + 1)) lv) st σ) := yX_at (.iinc 4 1, 3, 0, 0, 0, 0, []) rfl
theorem g12_46  : Y12 d Q 46 lv st σ ↔ Y12 d Q 5 lv st σ := yX_at (.goto (-41), 3, 5, 0, 0, 0, []) rfl
theorem g12_49  : Y12 d Q 49 lv st σ ↔ zldI lv 3 (fun x => Y12 d Q 50 lv (.int x :: st) σ) := yX_at (.iload_n 3, 1, 0, 0, 0, 0, []) rfl
theorem g12_50 {x : Int32} : Y12 d Q 50 lv [.int x] σ ↔ Q (some (.int x)) σ := yX_at (.ireturn, 1, 0, 0, 0, 0, []) rfl
end G12
def Y13 (d : Nat) (Q : Option Value → zSt → Prop) (pc : Nat) (lv : zLv) (st : List Value) (σ : zSt) : Prop := yX (yE d) ySn zt13 Q pc lv st σ
theorem C13 {d : Nat} {as : List Value} {σ : zSt} {P : Option Value → zSt → Prop} (hl : (lg_sl as).length ≤ 4) (h : Y13 d P 0 (lv_args 0 as) [] σ) : yC (d + 1) 13 as σ P := yC_of (by decide) hl h
section G13
variable {d : Nat} {Q : Option Value → zSt → Prop} {lv : zLv} {st : List Value} {σ : zSt}
theorem g13_0  : Y13 d Q 0 lv st σ ↔ Y13 d Q 1 lv (.int 0 :: st) σ := yX_at (.iconst 0, 1, 0, 0, 0, 0, []) rfl
theorem g13_1 {x : Int32} : Y13 d Q 1 lv (.int x :: st) σ ↔ Y13 d Q 2 (zs1 2 (.int x) lv) st σ := yX_at (.istore_n 2, 1, 0, 0, 0, 0, []) rfl
theorem g13_2  : Y13 d Q 2 lv st σ ↔ Y13 d Q 3 lv (.int 0 :: st) σ := yX_at (.iconst 0, 1, 0, 0, 0, 0, []) rfl
theorem g13_3 {x : Int32} : Y13 d Q 3 lv (.int x :: st) σ ↔ Y13 d Q 4 (zs1 3 (.int x) lv) st σ := yX_at (.istore_n 3, 1, 0, 0, 0, 0, []) rfl
theorem g13_4  : Y13 d Q 4 lv st σ ↔ zldI lv 3 (fun x => Y13 d Q 5 lv (.int x :: st) σ) := yX_at (.iload_n 3, 1, 0, 0, 0, 0, []) rfl
theorem g13_5  : Y13 d Q 5 lv st σ ↔ zldR lv 0 (fun x => Y13 d Q 6 lv (.ref x :: st) σ) := yX_at (.aload_n 0, 1, 0, 0, 0, 0, []) rfl
theorem g13_6 {c : Nat} : Y13 d Q 6 lv (.ref c :: st) σ ↔ zK c = 5 ∧ Y13 d Q 9 lv (zfv σ c 4 :: st) σ := yX_at (.getfield 34, 3, 5, 4, 21, 0, []) rfl
theorem g13_9 {x y : Int32} : Y13 d Q 9 lv (.int y :: .int x :: st) σ ↔ (y ≤ x → Y13 d Q 35 lv st σ) ∧ (¬ y ≤ x → Y13 d Q 12 lv st σ) := yX_at (.if_icmp .ge 26, 3, 35, 0, 0, 0, []) rfl
theorem g13_12  : Y13 d Q 12 lv st σ ↔ zldI lv 1 (fun x => Y13 d Q 13 lv (.int x :: st) σ) := yX_at (.iload_n 1, 1, 0, 0, 0, 0, []) rfl
theorem g13_13  : Y13 d Q 13 lv st σ ↔ zldI lv 3 (fun x => Y13 d Q 14 lv (.int x :: st) σ) := yX_at (.iload_n 3, 1, 0, 0, 0, 0, []) rfl
theorem g13_14 {x y : Int32} : Y13 d Q 14 lv (.int y :: .int x :: st) σ ↔ Y13 d Q 15 lv (.int (x >>> (y &&& 31)) :: st) σ := yX_at (.ishr, 1, 0, 0, 0, 0, []) rfl
theorem g13_15  : Y13 d Q 15 lv st σ ↔ Y13 d Q 16 lv (.int 1 :: st) σ := yX_at (.iconst 1, 1, 0, 0, 0, 0, []) rfl
theorem g13_16 {x y : Int32} : Y13 d Q 16 lv (.int y :: .int x :: st) σ ↔ Y13 d Q 17 lv (.int (x &&& y) :: st) σ := yX_at (.iand, 1, 0, 0, 0, 0, []) rfl
theorem g13_17 {x : Int32} : Y13 d Q 17 lv (.int x :: st) σ ↔ (x = 0 → Y13 d Q 29 lv st σ) ∧ (¬ x = 0 → Y13 d Q 20 lv st σ) := yX_at (.ifCond .eq 12, 3, 29, 0, 0, 0, []) rfl
theorem g13_20  : Y13 d Q 20 lv st σ ↔ zldI lv 2 (fun x => Y13 d Q 21 lv (.int x :: st) σ) := yX_at (.iload_n 2, 1, 0, 0, 0, 0, []) rfl
theorem g13_21  : Y13 d Q 21 lv st σ ↔ zldR lv 0 (fun x => Y13 d Q 22 lv (.ref x :: st) σ) := yX_at (.aload_n 0, 1, 0, 0, 0, 0, []) rfl
theorem g13_22 {c : Nat} : Y13 d Q 22 lv (.ref c :: st) σ ↔ zK c = 5 ∧ Y13 d Q 25 lv (zfv σ c 8 :: st) σ := yX_at (.getfield 45, 3, 5, 8, 24, 0, []) rfl
theorem g13_25  : Y13 d Q 25 lv st σ ↔ zldI lv 3 (fun x => Y13 d Q 26 lv (.int x :: st) σ) := yX_at (.iload_n 3, 1, 0, 0, 0, 0, []) rfl
theorem g13_26 {j : Int32} {c : Nat} : Y13 d Q 26 lv (.int j :: .ref c :: st) σ ↔ (zK c = 100 ∧ vp_in j (zLn c)) ∧ Y13 d Q 27 lv (.int (σ.1 c j.toNatClampNeg) :: st) σ := yX_at (.iaload, 1, 0, 0, 0, 0, []) rfl
theorem g13_27 {x y : Int32} : Y13 d Q 27 lv (.int y :: .int x :: st) σ ↔ Y13 d Q 28 lv (.int (x + y) :: st) σ := yX_at (.iadd, 1, 0, 0, 0, 0, []) rfl
theorem g13_28 {x : Int32} : Y13 d Q 28 lv (.int x :: st) σ ↔ Y13 d Q 29 (zs1 2 (.int x) lv) st σ := yX_at (.istore_n 2, 1, 0, 0, 0, 0, []) rfl
theorem g13_29  : Y13 d Q 29 lv st σ ↔ zldI lv 3 (fun x => Y13 d Q 32 (zs1 3 (.int (x + 1)) lv) st σ) := yX_at (.iinc 3 1, 3, 0, 0, 0, 0, []) rfl
theorem g13_32  : Y13 d Q 32 lv st σ ↔ Y13 d Q 4 lv st σ := yX_at (.goto (-28), 3, 4, 0, 0, 0, []) rfl
theorem g13_35  : Y13 d Q 35 lv st σ ↔ zldI lv 2 (fun x => Y13 d Q 36 lv (.int x :: st) σ) := yX_at (.iload_n 2, 1, 0, 0, 0, 0, []) rfl
theorem g13_36 {x : Int32} : Y13 d Q 36 lv [.int x] σ ↔ Q (some (.int x)) σ := yX_at (.ireturn, 1, 0, 0, 0, 0, []) rfl
end G13
def Y14 (d : Nat) (Q : Option Value → zSt → Prop) (pc : Nat) (lv : zLv) (st : List Value) (σ : zSt) : Prop := yX (yE d) ySn zt14 Q pc lv st σ
theorem C14 {d : Nat} {as : List Value} {σ : zSt} {P : Option Value → zSt → Prop} (hl : (lg_sl as).length ≤ 8) (h : Y14 d P 0 (lv_args 0 as) [] σ) : yC (d + 1) 14 as σ P := yC_of (by decide) hl h
section G14
variable {d : Nat} {Q : Option Value → zSt → Prop} {lv : zLv} {st : List Value} {σ : zSt}
theorem g14_0  : Y14 d Q 0 lv st σ ↔ Y14 d Q 1 lv (.int 0 :: st) σ := yX_at (.iconst 0, 1, 0, 0, 0, 0, []) rfl
theorem g14_1 {x : Int32} : Y14 d Q 1 lv (.int x :: st) σ ↔ Y14 d Q 3 (zs1 6 (.int x) lv) st σ := yX_at (.istore 6, 2, 0, 0, 0, 0, []) rfl
theorem g14_3  : Y14 d Q 3 lv st σ ↔ zldI lv 3 (fun x => Y14 d Q 4 lv (.int x :: st) σ) := yX_at (.iload_n 3, 1, 0, 0, 0, 0, []) rfl
theorem g14_4 {x : Int32} : Y14 d Q 4 lv (.int x :: st) σ ↔ Y14 d Q 6 (zs1 7 (.int x) lv) st σ := yX_at (.istore 7, 2, 0, 0, 0, 0, []) rfl
theorem g14_6  : Y14 d Q 6 lv st σ ↔ zldI lv 7 (fun x => Y14 d Q 8 lv (.int x :: st) σ) := yX_at (.iload 7, 2, 0, 0, 0, 0, []) rfl
theorem g14_8  : Y14 d Q 8 lv st σ ↔ Y14 d Q 10 lv (.int 9 :: st) σ := yX_at (.bipush 9, 2, 0, 0, 0, 0, []) rfl
theorem g14_10 {x y : Int32} : Y14 d Q 10 lv (.int y :: .int x :: st) σ ↔ (y < x → Y14 d Q 68 lv st σ) ∧ (¬ y < x → Y14 d Q 13 lv st σ) := yX_at (.if_icmp .gt 58, 3, 68, 0, 0, 0, []) rfl
theorem g14_13  : Y14 d Q 13 lv st σ ↔ zldI lv 6 (fun x => Y14 d Q 15 lv (.int x :: st) σ) := yX_at (.iload 6, 2, 0, 0, 0, 0, []) rfl
theorem g14_15  : Y14 d Q 15 lv st σ ↔ zldR lv 0 (fun x => Y14 d Q 16 lv (.ref x :: st) σ) := yX_at (.aload_n 0, 1, 0, 0, 0, 0, []) rfl
theorem g14_16  : Y14 d Q 16 lv st σ ↔ zldR lv 1 (fun x => Y14 d Q 17 lv (.ref x :: st) σ) := yX_at (.aload_n 1, 1, 0, 0, 0, 0, []) rfl
theorem g14_17  : Y14 d Q 17 lv st σ ↔ zldI lv 2 (fun x => Y14 d Q 18 lv (.int x :: st) σ) := yX_at (.iload_n 2, 1, 0, 0, 0, 0, []) rfl
theorem g14_18  : Y14 d Q 18 lv st σ ↔ zldI lv 7 (fun x => Y14 d Q 20 lv (.int x :: st) σ) := yX_at (.iload 7, 2, 0, 0, 0, 0, []) rfl
theorem g14_20 {v0 v1 v2 : Value} {c : Nat} : Y14 d Q 20 lv (v2 :: v1 :: v0 :: .ref c :: st) σ ↔ (zrcv 1 c ∧ zrm st) ∧ ∃ rv σ', yE d 15 [.ref c, v0, v1, v2] σ rv σ' ∧ Y14 d Q 23 lv (rv.toList ++ st) σ' := yX_at (.invokevirtual 48, 3, 15, 3, 25, 0, []) rfl
theorem g14_23 {x y : Int32} : Y14 d Q 23 lv (.int y :: .int x :: st) σ ↔ Y14 d Q 24 lv (.int (x ||| y) :: st) σ := yX_at (.ior, 1, 0, 0, 0, 0, []) rfl
theorem g14_24 {x : Int32} : Y14 d Q 24 lv (.int x :: st) σ ↔ Y14 d Q 26 (zs1 6 (.int x) lv) st σ := yX_at (.istore 6, 2, 0, 0, 0, 0, []) rfl
theorem g14_26  : Y14 d Q 26 lv st σ ↔ zldI lv 6 (fun x => Y14 d Q 28 lv (.int x :: st) σ) := yX_at (.iload 6, 2, 0, 0, 0, 0, []) rfl
theorem g14_28 {v0 : Value} : Y14 d Q 28 lv (v0 :: st) σ ↔ zrm st ∧ ∃ rv σ', yE d 146 [v0] σ rv σ' ∧ Y14 d Q 31 lv (rv.toList ++ st) σ' := yX_at (.invokestatic 51, 3, 146, 1, 26, 0, []) rfl
theorem g14_31  : Y14 d Q 31 lv st σ ↔ zldI lv 4 (fun x => Y14 d Q 33 lv (.int x :: st) σ) := yX_at (.iload 4, 2, 0, 0, 0, 0, []) rfl
theorem g14_33 {x y : Int32} : Y14 d Q 33 lv (.int y :: .int x :: st) σ ↔ (x ≤ y → Y14 d Q 38 lv st σ) ∧ (¬ x ≤ y → Y14 d Q 36 lv st σ) := yX_at (.if_icmp .le 5, 3, 38, 0, 0, 0, []) rfl
theorem g14_36  : Y14 d Q 36 lv st σ ↔ Y14 d Q 37 lv (.int 0 :: st) σ := yX_at (.iconst 0, 1, 0, 0, 0, 0, []) rfl
theorem g14_37 {x : Int32} : Y14 d Q 37 lv [.int x] σ ↔ (x = 0 ∨ x = 1) ∧ Q (some (.int x)) σ := yX_at (.ireturn, 1, 1, 0, 0, 0, []) rfl
theorem g14_38  : Y14 d Q 38 lv st σ ↔ zldR lv 0 (fun x => Y14 d Q 39 lv (.ref x :: st) σ) := yX_at (.aload_n 0, 1, 0, 0, 0, 0, []) rfl
theorem g14_39  : Y14 d Q 39 lv st σ ↔ zldR lv 1 (fun x => Y14 d Q 40 lv (.ref x :: st) σ) := yX_at (.aload_n 1, 1, 0, 0, 0, 0, []) rfl
theorem g14_40  : Y14 d Q 40 lv st σ ↔ zldI lv 6 (fun x => Y14 d Q 42 lv (.int x :: st) σ) := yX_at (.iload 6, 2, 0, 0, 0, 0, []) rfl
theorem g14_42  : Y14 d Q 42 lv st σ ↔ zldI lv 5 (fun x => Y14 d Q 44 lv (.int x :: st) σ) := yX_at (.iload 5, 2, 0, 0, 0, 0, []) rfl
theorem g14_44 {v0 v1 v2 : Value} {c : Nat} : Y14 d Q 44 lv (v2 :: v1 :: v0 :: .ref c :: st) σ ↔ (zrcv 1 c ∧ zrm st) ∧ ∃ rv σ', yE d 16 [.ref c, v0, v1, v2] σ rv σ' ∧ Y14 d Q 47 lv (rv.toList ++ st) σ' := yX_at (.invokevirtual 57, 3, 16, 3, 27, 0, []) rfl
theorem g14_47 {x : Int32} : Y14 d Q 47 lv (.int x :: st) σ ↔ Y14 d Q 49 (zs1 6 (.int x) lv) st σ := yX_at (.istore 6, 2, 0, 0, 0, 0, []) rfl
theorem g14_49  : Y14 d Q 49 lv st σ ↔ zldR lv 1 (fun x => Y14 d Q 50 lv (.ref x :: st) σ) := yX_at (.aload_n 1, 1, 0, 0, 0, 0, []) rfl
theorem g14_50  : Y14 d Q 50 lv st σ ↔ zldI lv 6 (fun x => Y14 d Q 52 lv (.int x :: st) σ) := yX_at (.iload 6, 2, 0, 0, 0, 0, []) rfl
theorem g14_52  : Y14 d Q 52 lv st σ ↔ zldI lv 7 (fun x => Y14 d Q 54 lv (.int x :: st) σ) := yX_at (.iload 7, 2, 0, 0, 0, 0, []) rfl
theorem g14_54 {v0 v1 v2 : Value} : Y14 d Q 54 lv (v2 :: v1 :: v0 :: st) σ ↔ zrm st ∧ ∃ rv σ', yE d 18 [v0, v1, v2] σ rv σ' ∧ Y14 d Q 57 lv (rv.toList ++ st) σ' := yX_at (.invokestatic 60, 3, 18, 3, 28, 0, []) rfl
theorem g14_57 {x : Int32} : Y14 d Q 57 lv (.int x :: st) σ ↔ (x = 0 → Y14 d Q 62 lv st σ) ∧ (¬ x = 0 → Y14 d Q 60 lv st σ) := yX_at (.ifCond .eq 5, 3, 62, 0, 0, 0, []) rfl
theorem g14_60  : Y14 d Q 60 lv st σ ↔ Y14 d Q 61 lv (.int 0 :: st) σ := yX_at (.iconst 0, 1, 0, 0, 0, 0, []) rfl
theorem g14_61 {x : Int32} : Y14 d Q 61 lv [.int x] σ ↔ (x = 0 ∨ x = 1) ∧ Q (some (.int x)) σ := yX_at (.ireturn, 1, 1, 0, 0, 0, []) rfl
theorem g14_62  : Y14 d Q 62 lv st σ ↔ zldI lv 7 (fun x => Y14 d Q 65 (zs1 7 (.int (x + 1)) lv) st σ) := yX_at (.iinc 7 1, 3, 0, 0, 0, 0, []) rfl
theorem g14_65  : Y14 d Q 65 lv st σ ↔ Y14 d Q 6 lv st σ := yX_at (.goto (-59), 3, 6, 0, 0, 0, []) rfl
theorem g14_68  : Y14 d Q 68 lv st σ ↔ Y14 d Q 69 lv (.int 1 :: st) σ := yX_at (.iconst 1, 1, 0, 0, 0, 0, []) rfl
theorem g14_69 {x : Int32} : Y14 d Q 69 lv [.int x] σ ↔ (x = 0 ∨ x = 1) ∧ Q (some (.int x)) σ := yX_at (.ireturn, 1, 1, 0, 0, 0, []) rfl
end G14
def Y15 (d : Nat) (Q : Option Value → zSt → Prop) (pc : Nat) (lv : zLv) (st : List Value) (σ : zSt) : Prop := yX (yE d) ySn zt15 Q pc lv st σ
theorem C15 {d : Nat} {as : List Value} {σ : zSt} {P : Option Value → zSt → Prop} (hl : (lg_sl as).length ≤ 6) (h : Y15 d P 0 (lv_args 0 as) [] σ) : yC (d + 1) 15 as σ P := yC_of (by decide) hl h
section G15
variable {d : Nat} {Q : Option Value → zSt → Prop} {lv : zLv} {st : List Value} {σ : zSt}
theorem g15_0  : Y15 d Q 0 lv st σ ↔ Y15 d Q 1 lv (.int 0 :: st) σ := yX_at (.iconst 0, 1, 0, 0, 0, 0, []) rfl
theorem g15_1 {x : Int32} : Y15 d Q 1 lv (.int x :: st) σ ↔ Y15 d Q 3 (zs1 4 (.int x) lv) st σ := yX_at (.istore 4, 2, 0, 0, 0, 0, []) rfl
theorem g15_3  : Y15 d Q 3 lv st σ ↔ Y15 d Q 4 lv (.int 0 :: st) σ := yX_at (.iconst 0, 1, 0, 0, 0, 0, []) rfl
theorem g15_4 {x : Int32} : Y15 d Q 4 lv (.int x :: st) σ ↔ Y15 d Q 6 (zs1 5 (.int x) lv) st σ := yX_at (.istore 5, 2, 0, 0, 0, 0, []) rfl
theorem g15_6  : Y15 d Q 6 lv st σ ↔ zldI lv 5 (fun x => Y15 d Q 8 lv (.int x :: st) σ) := yX_at (.iload 5, 2, 0, 0, 0, 0, []) rfl
theorem g15_8  : Y15 d Q 8 lv st σ ↔ zldR lv 1 (fun x => Y15 d Q 9 lv (.ref x :: st) σ) := yX_at (.aload_n 1, 1, 0, 0, 0, 0, []) rfl
theorem g15_9 {c : Nat} : Y15 d Q 9 lv (.ref c :: st) σ ↔ zK c = 5 ∧ Y15 d Q 12 lv (zfv σ c 4 :: st) σ := yX_at (.getfield 34, 3, 5, 4, 21, 0, []) rfl
theorem g15_12 {x y : Int32} : Y15 d Q 12 lv (.int y :: .int x :: st) σ ↔ (y ≤ x → Y15 d Q 64 lv st σ) ∧ (¬ y ≤ x → Y15 d Q 15 lv st σ) := yX_at (.if_icmp .ge 52, 3, 64, 0, 0, 0, []) rfl
theorem g15_15  : Y15 d Q 15 lv st σ ↔ zldI lv 2 (fun x => Y15 d Q 16 lv (.int x :: st) σ) := yX_at (.iload_n 2, 1, 0, 0, 0, 0, []) rfl
theorem g15_16  : Y15 d Q 16 lv st σ ↔ zldI lv 5 (fun x => Y15 d Q 18 lv (.int x :: st) σ) := yX_at (.iload 5, 2, 0, 0, 0, 0, []) rfl
theorem g15_18 {x y : Int32} : Y15 d Q 18 lv (.int y :: .int x :: st) σ ↔ Y15 d Q 19 lv (.int (x >>> (y &&& 31)) :: st) σ := yX_at (.ishr, 1, 0, 0, 0, 0, []) rfl
theorem g15_19  : Y15 d Q 19 lv st σ ↔ Y15 d Q 20 lv (.int 1 :: st) σ := yX_at (.iconst 1, 1, 0, 0, 0, 0, []) rfl
theorem g15_20 {x y : Int32} : Y15 d Q 20 lv (.int y :: .int x :: st) σ ↔ Y15 d Q 21 lv (.int (x &&& y) :: st) σ := yX_at (.iand, 1, 0, 0, 0, 0, []) rfl
theorem g15_21 {x : Int32} : Y15 d Q 21 lv (.int x :: st) σ ↔ (x = 0 → Y15 d Q 58 lv st σ) ∧ (¬ x = 0 → Y15 d Q 24 lv st σ) := yX_at (.ifCond .eq 37, 3, 58, 0, 0, 0, []) rfl
theorem g15_24  : Y15 d Q 24 lv st σ ↔ zldR lv 1 (fun x => Y15 d Q 25 lv (.ref x :: st) σ) := yX_at (.aload_n 1, 1, 0, 0, 0, 0, []) rfl
theorem g15_25 {c : Nat} : Y15 d Q 25 lv (.ref c :: st) σ ↔ zK c = 5 ∧ Y15 d Q 28 lv (zfv σ c 6 :: st) σ := yX_at (.getfield 42, 3, 5, 6, 23, 0, []) rfl
theorem g15_28  : Y15 d Q 28 lv st σ ↔ zldI lv 5 (fun x => Y15 d Q 30 lv (.int x :: st) σ) := yX_at (.iload 5, 2, 0, 0, 0, 0, []) rfl
theorem g15_30 {j : Int32} {c : Nat} : Y15 d Q 30 lv (.int j :: .ref c :: st) σ ↔ (zK c = 100 ∧ vp_in j (zLn c)) ∧ Y15 d Q 31 lv (.int (σ.1 c j.toNatClampNeg) :: st) σ := yX_at (.iaload, 1, 0, 0, 0, 0, []) rfl
theorem g15_31  : Y15 d Q 31 lv st σ ↔ zldI lv 3 (fun x => Y15 d Q 32 lv (.int x :: st) σ) := yX_at (.iload_n 3, 1, 0, 0, 0, 0, []) rfl
theorem g15_32 {x y : Int32} : Y15 d Q 32 lv (.int y :: .int x :: st) σ ↔ (¬ x = y → Y15 d Q 58 lv st σ) ∧ (x = y → Y15 d Q 35 lv st σ) := yX_at (.if_icmp .ne 26, 3, 58, 0, 0, 0, []) rfl
theorem g15_35  : Y15 d Q 35 lv st σ ↔ zldI lv 4 (fun x => Y15 d Q 37 lv (.int x :: st) σ) := yX_at (.iload 4, 2, 0, 0, 0, 0, []) rfl
theorem g15_37  : Y15 d Q 37 lv st σ ↔ Y15 d Q 38 lv (.int 1 :: st) σ := yX_at (.iconst 1, 1, 0, 0, 0, 0, []) rfl
theorem g15_38  : Y15 d Q 38 lv st σ ↔ zldI lv 5 (fun x => Y15 d Q 40 lv (.int x :: st) σ) := yX_at (.iload 5, 2, 0, 0, 0, 0, []) rfl
theorem g15_40 {x y : Int32} : Y15 d Q 40 lv (.int y :: .int x :: st) σ ↔ Y15 d Q 41 lv (.int (x <<< (y &&& 31)) :: st) σ := yX_at (.ishl, 1, 0, 0, 0, 0, []) rfl
theorem g15_41 {x y : Int32} : Y15 d Q 41 lv (.int y :: .int x :: st) σ ↔ Y15 d Q 42 lv (.int (x ||| y) :: st) σ := yX_at (.ior, 1, 0, 0, 0, 0, []) rfl
theorem g15_42 {x : Int32} : Y15 d Q 42 lv (.int x :: st) σ ↔ Y15 d Q 44 (zs1 4 (.int x) lv) st σ := yX_at (.istore 4, 2, 0, 0, 0, 0, []) rfl
theorem g15_44  : Y15 d Q 44 lv st σ ↔ zldR lv 0 (fun x => Y15 d Q 45 lv (.ref x :: st) σ) := yX_at (.aload_n 0, 1, 0, 0, 0, 0, []) rfl
theorem g15_45 {c : Nat} : Y15 d Q 45 lv (.ref c :: st) σ ↔ zK c = 1 ∧ Y15 d Q 48 lv (zfv σ c 2 :: st) σ := yX_at (.getfield 9, 3, 1, 2, 29, 0, []) rfl
theorem g15_48  : Y15 d Q 48 lv st σ ↔ zldI lv 5 (fun x => Y15 d Q 50 lv (.int x :: st) σ) := yX_at (.iload 5, 2, 0, 0, 0, 0, []) rfl
theorem g15_50  : Y15 d Q 50 lv st σ ↔ zldR lv 1 (fun x => Y15 d Q 51 lv (.ref x :: st) σ) := yX_at (.aload_n 1, 1, 0, 0, 0, 0, []) rfl
theorem g15_51 {c : Nat} : Y15 d Q 51 lv (.ref c :: st) σ ↔ zK c = 5 ∧ Y15 d Q 54 lv (zfv σ c 7 :: st) σ := yX_at (.getfield 64, 3, 5, 7, 30, 0, []) rfl
theorem g15_54  : Y15 d Q 54 lv st σ ↔ zldI lv 5 (fun x => Y15 d Q 56 lv (.int x :: st) σ) := yX_at (.iload 5, 2, 0, 0, 0, 0, []) rfl
theorem g15_56 {j : Int32} {c : Nat} : Y15 d Q 56 lv (.int j :: .ref c :: st) σ ↔ (zK c = 100 ∧ vp_in j (zLn c)) ∧ Y15 d Q 57 lv (.int (σ.1 c j.toNatClampNeg) :: st) σ := yX_at (.iaload, 1, 0, 0, 0, 0, []) rfl
theorem g15_57 {x j : Int32} {c : Nat} : Y15 d Q 57 lv (.int x :: .int j :: .ref c :: st) σ ↔ (zK c = 100 ∧ vp_in j (zLn c)) ∧ Y15 d Q 58 lv st (zwI σ c j.toNatClampNeg x) := yX_at (.iastore, 1, 0, 0, 0, 0, []) rfl
theorem g15_58  : Y15 d Q 58 lv st σ ↔ zldI lv 5 (fun x => Y15 d Q 61 (zs1 5 (.int (x + 1)) lv) st σ) := yX_at (.iinc 5 1, 3, 0, 0, 0, 0, []) rfl
theorem g15_61  : Y15 d Q 61 lv st σ ↔ Y15 d Q 6 lv st σ := yX_at (.goto (-55), 3, 6, 0, 0, 0, []) rfl
theorem g15_64  : Y15 d Q 64 lv st σ ↔ zldI lv 4 (fun x => Y15 d Q 66 lv (.int x :: st) σ) := yX_at (.iload 4, 2, 0, 0, 0, 0, []) rfl
theorem g15_66 {x : Int32} : Y15 d Q 66 lv [.int x] σ ↔ Q (some (.int x)) σ := yX_at (.ireturn, 1, 0, 0, 0, 0, []) rfl
end G15
def Y16 (d : Nat) (Q : Option Value → zSt → Prop) (pc : Nat) (lv : zLv) (st : List Value) (σ : zSt) : Prop := yX (yE d) ySn zt16 Q pc lv st σ
theorem C16 {d : Nat} {as : List Value} {σ : zSt} {P : Option Value → zSt → Prop} (hl : (lg_sl as).length ≤ 9) (h : Y16 d P 0 (lv_args 0 as) [] σ) : yC (d + 1) 16 as σ P := yC_of (by decide) hl h
section G16
variable {d : Nat} {Q : Option Value → zSt → Prop} {lv : zLv} {st : List Value} {σ : zSt}
theorem g16_0  : Y16 d Q 0 lv st σ ↔ zldI lv 2 (fun x => Y16 d Q 1 lv (.int x :: st) σ) := yX_at (.iload_n 2, 1, 0, 0, 0, 0, []) rfl
theorem g16_1 {x : Int32} : Y16 d Q 1 lv (.int x :: st) σ ↔ Y16 d Q 3 (zs1 4 (.int x) lv) st σ := yX_at (.istore 4, 2, 0, 0, 0, 0, []) rfl
theorem g16_3  : Y16 d Q 3 lv st σ ↔ zldI lv 3 (fun x => Y16 d Q 4 lv (.int x :: st) σ) := yX_at (.iload_n 3, 1, 0, 0, 0, 0, []) rfl
theorem g16_4 {x : Int32} : Y16 d Q 4 lv (.int x :: st) σ ↔ Y16 d Q 6 (zs1 5 (.int x) lv) st σ := yX_at (.istore 5, 2, 0, 0, 0, 0, []) rfl
theorem g16_6  : Y16 d Q 6 lv st σ ↔ Y16 d Q 7 lv (.int 0 :: st) σ := yX_at (.iconst 0, 1, 0, 0, 0, 0, []) rfl
theorem g16_7 {x : Int32} : Y16 d Q 7 lv (.int x :: st) σ ↔ Y16 d Q 9 (zs1 6 (.int x) lv) st σ := yX_at (.istore 6, 2, 0, 0, 0, 0, []) rfl
theorem g16_9  : Y16 d Q 9 lv st σ ↔ zldI lv 6 (fun x => Y16 d Q 11 lv (.int x :: st) σ) := yX_at (.iload 6, 2, 0, 0, 0, 0, []) rfl
theorem g16_11  : Y16 d Q 11 lv st σ ↔ Y16 d Q 13 lv (.int 8 :: st) σ := yX_at (.bipush 8, 2, 0, 0, 0, 0, []) rfl
theorem g16_13 {x y : Int32} : Y16 d Q 13 lv (.int y :: .int x :: st) σ ↔ (y ≤ x → Y16 d Q 94 lv st σ) ∧ (¬ y ≤ x → Y16 d Q 16 lv st σ) := yX_at (.if_icmp .ge 81, 3, 94, 0, 0, 0, []) rfl
theorem g16_16  : Y16 d Q 16 lv st σ ↔ zldI lv 4 (fun x => Y16 d Q 18 lv (.int x :: st) σ) := yX_at (.iload 4, 2, 0, 0, 0, 0, []) rfl
theorem g16_18 {x : Int32} : Y16 d Q 18 lv (.int x :: st) σ ↔ (x = 0 → Y16 d Q 94 lv st σ) ∧ (¬ x = 0 → Y16 d Q 21 lv st σ) := yX_at (.ifCond .eq 76, 3, 94, 0, 0, 0, []) rfl
theorem g16_21  : Y16 d Q 21 lv st σ ↔ zldI lv 5 (fun x => Y16 d Q 23 lv (.int x :: st) σ) := yX_at (.iload 5, 2, 0, 0, 0, 0, []) rfl
theorem g16_23 {x : Int32} : Y16 d Q 23 lv (.int x :: st) σ ↔ (x ≤ 0 → Y16 d Q 94 lv st σ) ∧ (¬ x ≤ 0 → Y16 d Q 26 lv st σ) := yX_at (.ifCond .le 71, 3, 94, 0, 0, 0, []) rfl
theorem g16_26  : Y16 d Q 26 lv st σ ↔ zldR lv 1 (fun x => Y16 d Q 27 lv (.ref x :: st) σ) := yX_at (.aload_n 1, 1, 0, 0, 0, 0, []) rfl
theorem g16_27  : Y16 d Q 27 lv st σ ↔ zldI lv 4 (fun x => Y16 d Q 29 lv (.int x :: st) σ) := yX_at (.iload 4, 2, 0, 0, 0, 0, []) rfl
theorem g16_29 {v0 v1 : Value} : Y16 d Q 29 lv (v1 :: v0 :: st) σ ↔ zrm st ∧ ∃ rv σ', yE d 17 [v0, v1] σ rv σ' ∧ Y16 d Q 32 lv (rv.toList ++ st) σ' := yX_at (.invokestatic 67, 3, 17, 2, 31, 0, []) rfl
theorem g16_32 {x : Int32} : Y16 d Q 32 lv (.int x :: st) σ ↔ Y16 d Q 34 (zs1 7 (.int x) lv) st σ := yX_at (.istore 7, 2, 0, 0, 0, 0, []) rfl
theorem g16_34  : Y16 d Q 34 lv st σ ↔ zldI lv 5 (fun x => Y16 d Q 36 lv (.int x :: st) σ) := yX_at (.iload 5, 2, 0, 0, 0, 0, []) rfl
theorem g16_36  : Y16 d Q 36 lv st σ ↔ zldR lv 0 (fun x => Y16 d Q 37 lv (.ref x :: st) σ) := yX_at (.aload_n 0, 1, 0, 0, 0, 0, []) rfl
theorem g16_37 {c : Nat} : Y16 d Q 37 lv (.ref c :: st) σ ↔ zK c = 1 ∧ Y16 d Q 40 lv (zfv σ c 2 :: st) σ := yX_at (.getfield 9, 3, 1, 2, 29, 0, []) rfl
theorem g16_40  : Y16 d Q 40 lv st σ ↔ zldI lv 7 (fun x => Y16 d Q 42 lv (.int x :: st) σ) := yX_at (.iload 7, 2, 0, 0, 0, 0, []) rfl
theorem g16_42 {j : Int32} {c : Nat} : Y16 d Q 42 lv (.int j :: .ref c :: st) σ ↔ (zK c = 100 ∧ vp_in j (zLn c)) ∧ Y16 d Q 43 lv (.int (σ.1 c j.toNatClampNeg) :: st) σ := yX_at (.iaload, 1, 0, 0, 0, 0, []) rfl
theorem g16_43 {x y : Int32} : Y16 d Q 43 lv (.int y :: .int x :: st) σ ↔ zrm st ∧ Y16 d Q 46 lv (.int (if y < x then y else x) :: st) σ := yX_at (.invokestatic 70, 3, 901, 2, 32, 0, []) rfl
theorem g16_46 {x : Int32} : Y16 d Q 46 lv (.int x :: st) σ ↔ Y16 d Q 48 (zs1 8 (.int x) lv) st σ := yX_at (.istore 8, 2, 0, 0, 0, 0, []) rfl
theorem g16_48  : Y16 d Q 48 lv st σ ↔ zldI lv 5 (fun x => Y16 d Q 50 lv (.int x :: st) σ) := yX_at (.iload 5, 2, 0, 0, 0, 0, []) rfl
theorem g16_50  : Y16 d Q 50 lv st σ ↔ zldI lv 8 (fun x => Y16 d Q 52 lv (.int x :: st) σ) := yX_at (.iload 8, 2, 0, 0, 0, 0, []) rfl
theorem g16_52 {x y : Int32} : Y16 d Q 52 lv (.int y :: .int x :: st) σ ↔ Y16 d Q 53 lv (.int (x - y) :: st) σ := yX_at (.isub, 1, 0, 0, 0, 0, []) rfl
theorem g16_53 {x : Int32} : Y16 d Q 53 lv (.int x :: st) σ ↔ Y16 d Q 55 (zs1 5 (.int x) lv) st σ := yX_at (.istore 5, 2, 0, 0, 0, 0, []) rfl
theorem g16_55  : Y16 d Q 55 lv st σ ↔ zldR lv 0 (fun x => Y16 d Q 56 lv (.ref x :: st) σ) := yX_at (.aload_n 0, 1, 0, 0, 0, 0, []) rfl
theorem g16_56 {c : Nat} : Y16 d Q 56 lv (.ref c :: st) σ ↔ zK c = 1 ∧ Y16 d Q 59 lv (zfv σ c 2 :: st) σ := yX_at (.getfield 9, 3, 1, 2, 29, 0, []) rfl
theorem g16_59  : Y16 d Q 59 lv st σ ↔ zldI lv 7 (fun x => Y16 d Q 61 lv (.int x :: st) σ) := yX_at (.iload 7, 2, 0, 0, 0, 0, []) rfl
theorem g16_61  : Y16 d Q 61 lv st σ ↔ zdup2 st (fun r => Y16 d Q 62 lv r σ) := yX_at (.dup2, 1, 0, 0, 0, 0, []) rfl
theorem g16_62 {j : Int32} {c : Nat} : Y16 d Q 62 lv (.int j :: .ref c :: st) σ ↔ (zK c = 100 ∧ vp_in j (zLn c)) ∧ Y16 d Q 63 lv (.int (σ.1 c j.toNatClampNeg) :: st) σ := yX_at (.iaload, 1, 0, 0, 0, 0, []) rfl
theorem g16_63  : Y16 d Q 63 lv st σ ↔ zldI lv 8 (fun x => Y16 d Q 65 lv (.int x :: st) σ) := yX_at (.iload 8, 2, 0, 0, 0, 0, []) rfl
theorem g16_65 {x y : Int32} : Y16 d Q 65 lv (.int y :: .int x :: st) σ ↔ Y16 d Q 66 lv (.int (x - y) :: st) σ := yX_at (.isub, 1, 0, 0, 0, 0, []) rfl
theorem g16_66 {x j : Int32} {c : Nat} : Y16 d Q 66 lv (.int x :: .int j :: .ref c :: st) σ ↔ (zK c = 100 ∧ vp_in j (zLn c)) ∧ Y16 d Q 67 lv st (zwI σ c j.toNatClampNeg x) := yX_at (.iastore, 1, 0, 0, 0, 0, []) rfl
theorem g16_67  : Y16 d Q 67 lv st σ ↔ zldR lv 0 (fun x => Y16 d Q 68 lv (.ref x :: st) σ) := yX_at (.aload_n 0, 1, 0, 0, 0, 0, []) rfl
theorem g16_68 {c : Nat} : Y16 d Q 68 lv (.ref c :: st) σ ↔ zK c = 1 ∧ Y16 d Q 71 lv (zfv σ c 2 :: st) σ := yX_at (.getfield 9, 3, 1, 2, 29, 0, []) rfl
theorem g16_71  : Y16 d Q 71 lv st σ ↔ zldI lv 7 (fun x => Y16 d Q 73 lv (.int x :: st) σ) := yX_at (.iload 7, 2, 0, 0, 0, 0, []) rfl
theorem g16_73 {j : Int32} {c : Nat} : Y16 d Q 73 lv (.int j :: .ref c :: st) σ ↔ (zK c = 100 ∧ vp_in j (zLn c)) ∧ Y16 d Q 74 lv (.int (σ.1 c j.toNatClampNeg) :: st) σ := yX_at (.iaload, 1, 0, 0, 0, 0, []) rfl
theorem g16_74 {x : Int32} : Y16 d Q 74 lv (.int x :: st) σ ↔ (¬ x = 0 → Y16 d Q 88 lv st σ) ∧ (x = 0 → Y16 d Q 77 lv st σ) := yX_at (.ifCond .ne 14, 3, 88, 0, 0, 0, []) rfl
theorem g16_77  : Y16 d Q 77 lv st σ ↔ zldI lv 4 (fun x => Y16 d Q 79 lv (.int x :: st) σ) := yX_at (.iload 4, 2, 0, 0, 0, 0, []) rfl
theorem g16_79  : Y16 d Q 79 lv st σ ↔ Y16 d Q 80 lv (.int 1 :: st) σ := yX_at (.iconst 1, 1, 0, 0, 0, 0, []) rfl
theorem g16_80  : Y16 d Q 80 lv st σ ↔ zldI lv 7 (fun x => Y16 d Q 82 lv (.int x :: st) σ) := yX_at (.iload 7, 2, 0, 0, 0, 0, []) rfl
theorem g16_82 {x y : Int32} : Y16 d Q 82 lv (.int y :: .int x :: st) σ ↔ Y16 d Q 83 lv (.int (x <<< (y &&& 31)) :: st) σ := yX_at (.ishl, 1, 0, 0, 0, 0, []) rfl
theorem g16_83  : Y16 d Q 83 lv st σ ↔ Y16 d Q 84 lv (.int (-1) :: st) σ := by
  rw [show (-1 : Int32) = Int32.ofInt (-1) from by decide]
  exact yX_at (.iconst (-1), 1, 0, 0, 0, 0, []) rfl
theorem g16_84 {x y : Int32} : Y16 d Q 84 lv (.int y :: .int x :: st) σ ↔ Y16 d Q 85 lv (.int (x ^^^ y) :: st) σ := yX_at (.ixor, 1, 0, 0, 0, 0, []) rfl
theorem g16_85 {x y : Int32} : Y16 d Q 85 lv (.int y :: .int x :: st) σ ↔ Y16 d Q 86 lv (.int (x &&& y) :: st) σ := yX_at (.iand, 1, 0, 0, 0, 0, []) rfl
theorem g16_86 {x : Int32} : Y16 d Q 86 lv (.int x :: st) σ ↔ Y16 d Q 88 (zs1 4 (.int x) lv) st σ := yX_at (.istore 4, 2, 0, 0, 0, 0, []) rfl
theorem g16_88  : Y16 d Q 88 lv st σ ↔ zldI lv 6 (fun x => Y16 d Q 91 (zs1 6 (.int (x + 1)) lv) st σ) := yX_at (.iinc 6 1, 3, 0, 0, 0, 0, []) rfl
theorem g16_91  : Y16 d Q 91 lv st σ ↔ Y16 d Q 9 lv st σ := yX_at (.goto (-82), 3, 9, 0, 0, 0, []) rfl
theorem g16_94  : Y16 d Q 94 lv st σ ↔ zldI lv 4 (fun x => Y16 d Q 96 lv (.int x :: st) σ) := yX_at (.iload 4, 2, 0, 0, 0, 0, []) rfl
theorem g16_96 {x : Int32} : Y16 d Q 96 lv [.int x] σ ↔ Q (some (.int x)) σ := yX_at (.ireturn, 1, 0, 0, 0, 0, []) rfl
end G16
def Y17 (d : Nat) (Q : Option Value → zSt → Prop) (pc : Nat) (lv : zLv) (st : List Value) (σ : zSt) : Prop := yX (yE d) ySn zt17 Q pc lv st σ
theorem C17 {d : Nat} {as : List Value} {σ : zSt} {P : Option Value → zSt → Prop} (hl : (lg_sl as).length ≤ 5) (h : Y17 d P 0 (lv_args 0 as) [] σ) : yC (d + 1) 17 as σ P := yC_of (by decide) hl h
section G17
variable {d : Nat} {Q : Option Value → zSt → Prop} {lv : zLv} {st : List Value} {σ : zSt}
theorem g17_0  : Y17 d Q 0 lv st σ ↔ Y17 d Q 1 lv (.int 0 :: st) σ := yX_at (.iconst 0, 1, 0, 0, 0, 0, []) rfl
theorem g17_1 {x : Int32} : Y17 d Q 1 lv (.int x :: st) σ ↔ Y17 d Q 2 (zs1 2 (.int x) lv) st σ := yX_at (.istore_n 2, 1, 0, 0, 0, 0, []) rfl
theorem g17_2  : Y17 d Q 2 lv st σ ↔ Y17 d Q 4 lv (.int 10 :: st) σ := yX_at (.bipush 10, 2, 0, 0, 0, 0, []) rfl
theorem g17_4 {x : Int32} : Y17 d Q 4 lv (.int x :: st) σ ↔ Y17 d Q 5 (zs1 3 (.int x) lv) st σ := yX_at (.istore_n 3, 1, 0, 0, 0, 0, []) rfl
theorem g17_5  : Y17 d Q 5 lv st σ ↔ Y17 d Q 6 lv (.int 0 :: st) σ := yX_at (.iconst 0, 1, 0, 0, 0, 0, []) rfl
theorem g17_6 {x : Int32} : Y17 d Q 6 lv (.int x :: st) σ ↔ Y17 d Q 8 (zs1 4 (.int x) lv) st σ := yX_at (.istore 4, 2, 0, 0, 0, 0, []) rfl
theorem g17_8  : Y17 d Q 8 lv st σ ↔ zldI lv 4 (fun x => Y17 d Q 10 lv (.int x :: st) σ) := yX_at (.iload 4, 2, 0, 0, 0, 0, []) rfl
theorem g17_10  : Y17 d Q 10 lv st σ ↔ zldR lv 0 (fun x => Y17 d Q 11 lv (.ref x :: st) σ) := yX_at (.aload_n 0, 1, 0, 0, 0, 0, []) rfl
theorem g17_11 {c : Nat} : Y17 d Q 11 lv (.ref c :: st) σ ↔ zK c = 5 ∧ Y17 d Q 14 lv (zfv σ c 4 :: st) σ := yX_at (.getfield 34, 3, 5, 4, 21, 0, []) rfl
theorem g17_14 {x y : Int32} : Y17 d Q 14 lv (.int y :: .int x :: st) σ ↔ (y ≤ x → Y17 d Q 54 lv st σ) ∧ (¬ y ≤ x → Y17 d Q 17 lv st σ) := yX_at (.if_icmp .ge 40, 3, 54, 0, 0, 0, []) rfl
theorem g17_17  : Y17 d Q 17 lv st σ ↔ zldI lv 1 (fun x => Y17 d Q 18 lv (.int x :: st) σ) := yX_at (.iload_n 1, 1, 0, 0, 0, 0, []) rfl
theorem g17_18  : Y17 d Q 18 lv st σ ↔ zldI lv 4 (fun x => Y17 d Q 20 lv (.int x :: st) σ) := yX_at (.iload 4, 2, 0, 0, 0, 0, []) rfl
theorem g17_20 {x y : Int32} : Y17 d Q 20 lv (.int y :: .int x :: st) σ ↔ Y17 d Q 21 lv (.int (x >>> (y &&& 31)) :: st) σ := yX_at (.ishr, 1, 0, 0, 0, 0, []) rfl
theorem g17_21  : Y17 d Q 21 lv st σ ↔ Y17 d Q 22 lv (.int 1 :: st) σ := yX_at (.iconst 1, 1, 0, 0, 0, 0, []) rfl
theorem g17_22 {x y : Int32} : Y17 d Q 22 lv (.int y :: .int x :: st) σ ↔ Y17 d Q 23 lv (.int (x &&& y) :: st) σ := yX_at (.iand, 1, 0, 0, 0, 0, []) rfl
theorem g17_23 {x : Int32} : Y17 d Q 23 lv (.int x :: st) σ ↔ (x = 0 → Y17 d Q 48 lv st σ) ∧ (¬ x = 0 → Y17 d Q 26 lv st σ) := yX_at (.ifCond .eq 25, 3, 48, 0, 0, 0, []) rfl
theorem g17_26  : Y17 d Q 26 lv st σ ↔ zldR lv 0 (fun x => Y17 d Q 27 lv (.ref x :: st) σ) := yX_at (.aload_n 0, 1, 0, 0, 0, 0, []) rfl
theorem g17_27 {c : Nat} : Y17 d Q 27 lv (.ref c :: st) σ ↔ zK c = 5 ∧ Y17 d Q 30 lv (zfv σ c 9 :: st) σ := yX_at (.getfield 76, 3, 5, 9, 33, 0, []) rfl
theorem g17_30  : Y17 d Q 30 lv st σ ↔ zldI lv 4 (fun x => Y17 d Q 32 lv (.int x :: st) σ) := yX_at (.iload 4, 2, 0, 0, 0, 0, []) rfl
theorem g17_32 {j : Int32} {c : Nat} : Y17 d Q 32 lv (.int j :: .ref c :: st) σ ↔ (zK c = 100 ∧ vp_in j (zLn c)) ∧ Y17 d Q 33 lv (.int (σ.1 c j.toNatClampNeg) :: st) σ := yX_at (.iaload, 1, 0, 0, 0, 0, []) rfl
theorem g17_33  : Y17 d Q 33 lv st σ ↔ zldI lv 3 (fun x => Y17 d Q 34 lv (.int x :: st) σ) := yX_at (.iload_n 3, 1, 0, 0, 0, 0, []) rfl
theorem g17_34 {x y : Int32} : Y17 d Q 34 lv (.int y :: .int x :: st) σ ↔ (y ≤ x → Y17 d Q 48 lv st σ) ∧ (¬ y ≤ x → Y17 d Q 37 lv st σ) := yX_at (.if_icmp .ge 14, 3, 48, 0, 0, 0, []) rfl
theorem g17_37  : Y17 d Q 37 lv st σ ↔ zldI lv 4 (fun x => Y17 d Q 39 lv (.int x :: st) σ) := yX_at (.iload 4, 2, 0, 0, 0, 0, []) rfl
theorem g17_39 {x : Int32} : Y17 d Q 39 lv (.int x :: st) σ ↔ Y17 d Q 40 (zs1 2 (.int x) lv) st σ := yX_at (.istore_n 2, 1, 0, 0, 0, 0, []) rfl
theorem g17_40  : Y17 d Q 40 lv st σ ↔ zldR lv 0 (fun x => Y17 d Q 41 lv (.ref x :: st) σ) := yX_at (.aload_n 0, 1, 0, 0, 0, 0, []) rfl
theorem g17_41 {c : Nat} : Y17 d Q 41 lv (.ref c :: st) σ ↔ zK c = 5 ∧ Y17 d Q 44 lv (zfv σ c 9 :: st) σ := yX_at (.getfield 76, 3, 5, 9, 33, 0, []) rfl
theorem g17_44  : Y17 d Q 44 lv st σ ↔ zldI lv 4 (fun x => Y17 d Q 46 lv (.int x :: st) σ) := yX_at (.iload 4, 2, 0, 0, 0, 0, []) rfl
theorem g17_46 {j : Int32} {c : Nat} : Y17 d Q 46 lv (.int j :: .ref c :: st) σ ↔ (zK c = 100 ∧ vp_in j (zLn c)) ∧ Y17 d Q 47 lv (.int (σ.1 c j.toNatClampNeg) :: st) σ := yX_at (.iaload, 1, 0, 0, 0, 0, []) rfl
theorem g17_47 {x : Int32} : Y17 d Q 47 lv (.int x :: st) σ ↔ Y17 d Q 48 (zs1 3 (.int x) lv) st σ := yX_at (.istore_n 3, 1, 0, 0, 0, 0, []) rfl
theorem g17_48  : Y17 d Q 48 lv st σ ↔ zldI lv 4 (fun x => Y17 d Q 51 (zs1 4 (.int (x + 1)) lv) st σ) := yX_at (.iinc 4 1, 3, 0, 0, 0, 0, []) rfl
theorem g17_51  : Y17 d Q 51 lv st σ ↔ Y17 d Q 8 lv st σ := yX_at (.goto (-43), 3, 8, 0, 0, 0, []) rfl
theorem g17_54  : Y17 d Q 54 lv st σ ↔ zldI lv 2 (fun x => Y17 d Q 55 lv (.int x :: st) σ) := yX_at (.iload_n 2, 1, 0, 0, 0, 0, []) rfl
theorem g17_55 {x : Int32} : Y17 d Q 55 lv [.int x] σ ↔ Q (some (.int x)) σ := yX_at (.ireturn, 1, 0, 0, 0, 0, []) rfl
end G17
def Y18 (d : Nat) (Q : Option Value → zSt → Prop) (pc : Nat) (lv : zLv) (st : List Value) (σ : zSt) : Prop := yX (yE d) ySn zt18 Q pc lv st σ
theorem C18 {d : Nat} {as : List Value} {σ : zSt} {P : Option Value → zSt → Prop} (hl : (lg_sl as).length ≤ 4) (h : Y18 d P 0 (lv_args 0 as) [] σ) : yC (d + 1) 18 as σ P := yC_of (by decide) hl h
section G18
variable {d : Nat} {Q : Option Value → zSt → Prop} {lv : zLv} {st : List Value} {σ : zSt}
theorem g18_0  : Y18 d Q 0 lv st σ ↔ Y18 d Q 1 lv (.int 0 :: st) σ := yX_at (.iconst 0, 1, 0, 0, 0, 0, []) rfl
theorem g18_1 {x : Int32} : Y18 d Q 1 lv (.int x :: st) σ ↔ Y18 d Q 2 (zs1 3 (.int x) lv) st σ := yX_at (.istore_n 3, 1, 0, 0, 0, 0, []) rfl
theorem g18_2  : Y18 d Q 2 lv st σ ↔ zldI lv 3 (fun x => Y18 d Q 3 lv (.int x :: st) σ) := yX_at (.iload_n 3, 1, 0, 0, 0, 0, []) rfl
theorem g18_3  : Y18 d Q 3 lv st σ ↔ zldR lv 0 (fun x => Y18 d Q 4 lv (.ref x :: st) σ) := yX_at (.aload_n 0, 1, 0, 0, 0, 0, []) rfl
theorem g18_4 {c : Nat} : Y18 d Q 4 lv (.ref c :: st) σ ↔ zK c = 5 ∧ Y18 d Q 7 lv (zfv σ c 4 :: st) σ := yX_at (.getfield 34, 3, 5, 4, 21, 0, []) rfl
theorem g18_7 {x y : Int32} : Y18 d Q 7 lv (.int y :: .int x :: st) σ ↔ (y ≤ x → Y18 d Q 36 lv st σ) ∧ (¬ y ≤ x → Y18 d Q 10 lv st σ) := yX_at (.if_icmp .ge 29, 3, 36, 0, 0, 0, []) rfl
theorem g18_10  : Y18 d Q 10 lv st σ ↔ zldI lv 1 (fun x => Y18 d Q 11 lv (.int x :: st) σ) := yX_at (.iload_n 1, 1, 0, 0, 0, 0, []) rfl
theorem g18_11  : Y18 d Q 11 lv st σ ↔ zldI lv 3 (fun x => Y18 d Q 12 lv (.int x :: st) σ) := yX_at (.iload_n 3, 1, 0, 0, 0, 0, []) rfl
theorem g18_12 {x y : Int32} : Y18 d Q 12 lv (.int y :: .int x :: st) σ ↔ Y18 d Q 13 lv (.int (x >>> (y &&& 31)) :: st) σ := yX_at (.ishr, 1, 0, 0, 0, 0, []) rfl
theorem g18_13  : Y18 d Q 13 lv st σ ↔ Y18 d Q 14 lv (.int 1 :: st) σ := yX_at (.iconst 1, 1, 0, 0, 0, 0, []) rfl
theorem g18_14 {x y : Int32} : Y18 d Q 14 lv (.int y :: .int x :: st) σ ↔ Y18 d Q 15 lv (.int (x &&& y) :: st) σ := yX_at (.iand, 1, 0, 0, 0, 0, []) rfl
theorem g18_15 {x : Int32} : Y18 d Q 15 lv (.int x :: st) σ ↔ (x = 0 → Y18 d Q 30 lv st σ) ∧ (¬ x = 0 → Y18 d Q 18 lv st σ) := yX_at (.ifCond .eq 15, 3, 30, 0, 0, 0, []) rfl
theorem g18_18  : Y18 d Q 18 lv st σ ↔ zldR lv 0 (fun x => Y18 d Q 19 lv (.ref x :: st) σ) := yX_at (.aload_n 0, 1, 0, 0, 0, 0, []) rfl
theorem g18_19 {c : Nat} : Y18 d Q 19 lv (.ref c :: st) σ ↔ zK c = 5 ∧ Y18 d Q 22 lv (zfv σ c 9 :: st) σ := yX_at (.getfield 76, 3, 5, 9, 33, 0, []) rfl
theorem g18_22  : Y18 d Q 22 lv st σ ↔ zldI lv 3 (fun x => Y18 d Q 23 lv (.int x :: st) σ) := yX_at (.iload_n 3, 1, 0, 0, 0, 0, []) rfl
theorem g18_23 {j : Int32} {c : Nat} : Y18 d Q 23 lv (.int j :: .ref c :: st) σ ↔ (zK c = 100 ∧ vp_in j (zLn c)) ∧ Y18 d Q 24 lv (.int (σ.1 c j.toNatClampNeg) :: st) σ := yX_at (.iaload, 1, 0, 0, 0, 0, []) rfl
theorem g18_24  : Y18 d Q 24 lv st σ ↔ zldI lv 2 (fun x => Y18 d Q 25 lv (.int x :: st) σ) := yX_at (.iload_n 2, 1, 0, 0, 0, 0, []) rfl
theorem g18_25 {x y : Int32} : Y18 d Q 25 lv (.int y :: .int x :: st) σ ↔ (¬ x = y → Y18 d Q 30 lv st σ) ∧ (x = y → Y18 d Q 28 lv st σ) := yX_at (.if_icmp .ne 5, 3, 30, 0, 0, 0, []) rfl
theorem g18_28  : Y18 d Q 28 lv st σ ↔ Y18 d Q 29 lv (.int 1 :: st) σ := yX_at (.iconst 1, 1, 0, 0, 0, 0, []) rfl
theorem g18_29 {x : Int32} : Y18 d Q 29 lv [.int x] σ ↔ (x = 0 ∨ x = 1) ∧ Q (some (.int x)) σ := yX_at (.ireturn, 1, 1, 0, 0, 0, []) rfl
theorem g18_30  : Y18 d Q 30 lv st σ ↔ zldI lv 3 (fun x => Y18 d Q 33 (zs1 3 (.int (x + 1)) lv) st σ) := yX_at (.iinc 3 1, 3, 0, 0, 0, 0, []) rfl
theorem g18_33  : Y18 d Q 33 lv st σ ↔ Y18 d Q 2 lv st σ := yX_at (.goto (-31), 3, 2, 0, 0, 0, []) rfl
theorem g18_36  : Y18 d Q 36 lv st σ ↔ Y18 d Q 37 lv (.int 0 :: st) σ := yX_at (.iconst 0, 1, 0, 0, 0, 0, []) rfl
theorem g18_37 {x : Int32} : Y18 d Q 37 lv [.int x] σ ↔ (x = 0 ∨ x = 1) ∧ Q (some (.int x)) σ := yX_at (.ireturn, 1, 1, 0, 0, 0, []) rfl
end G18
def Y19 (d : Nat) (Q : Option Value → zSt → Prop) (pc : Nat) (lv : zLv) (st : List Value) (σ : zSt) : Prop := yX (yE d) ySn zt19 Q pc lv st σ
theorem C19 {d : Nat} {as : List Value} {σ : zSt} {P : Option Value → zSt → Prop} (hl : (lg_sl as).length ≤ 1) (h : Y19 d P 0 (lv_args 0 as) [] σ) : yC (d + 1) 19 as σ P := yC_of (by decide) hl h
section G19
variable {d : Nat} {Q : Option Value → zSt → Prop} {lv : zLv} {st : List Value} {σ : zSt}
theorem g19_0  : Y19 d Q 0 lv st σ ↔ zldR lv 0 (fun x => Y19 d Q 1 lv (.ref x :: st) σ) := yX_at (.aload_n 0, 1, 0, 0, 0, 0, []) rfl
theorem g19_1  : Y19 d Q 1 lv st σ ↔ Y19 d Q 2 lv (.int 0 :: st) σ := yX_at (.iconst 0, 1, 0, 0, 0, 0, []) rfl
theorem g19_2 {x : Int32} {c : Nat} : Y19 d Q 2 lv (.int x :: .ref c :: st) σ ↔ zK c = 2 ∧ Y19 d Q 5 lv st (zwI σ c 0 x) := yX_at (.putfield 36, 3, 2, 0, 34, 0, []) rfl
theorem g19_5  : Y19 d Q 5 lv st σ ↔ zldR lv 0 (fun x => Y19 d Q 6 lv (.ref x :: st) σ) := yX_at (.aload_n 0, 1, 0, 0, 0, 0, []) rfl
theorem g19_6  : Y19 d Q 6 lv st σ ↔ Y19 d Q 7 lv (.int 0 :: st) σ := yX_at (.iconst 0, 1, 0, 0, 0, 0, []) rfl
theorem g19_7 {x : Int32} {c : Nat} : Y19 d Q 7 lv (.int x :: .ref c :: st) σ ↔ zK c = 2 ∧ Y19 d Q 10 lv st (zwI σ c 1 x) := yX_at (.putfield 40, 3, 2, 1, 35, 0, []) rfl
theorem g19_10  : Y19 d Q 10 lv st σ ↔ zldR lv 0 (fun x => Y19 d Q 11 lv (.ref x :: st) σ) := yX_at (.aload_n 0, 1, 0, 0, 0, 0, []) rfl
theorem g19_11  : Y19 d Q 11 lv st σ ↔ Y19 d Q 12 lv (.int 0 :: st) σ := yX_at (.iconst 0, 1, 0, 0, 0, 0, []) rfl
theorem g19_12 {x : Int32} {c : Nat} : Y19 d Q 12 lv (.int x :: .ref c :: st) σ ↔ zK c = 2 ∧ Y19 d Q 15 lv st (zwI σ c 2 x) := yX_at (.putfield 43, 3, 2, 2, 36, 0, []) rfl
theorem g19_15  : Y19 d Q 15 lv st σ ↔ zldR lv 0 (fun x => Y19 d Q 16 lv (.ref x :: st) σ) := yX_at (.aload_n 0, 1, 0, 0, 0, 0, []) rfl
theorem g19_16  : Y19 d Q 16 lv st σ ↔ Y19 d Q 17 lv (.int 0 :: st) σ := yX_at (.iconst 0, 1, 0, 0, 0, 0, []) rfl
theorem g19_17 {x : Int32} {c : Nat} : Y19 d Q 17 lv (.int x :: .ref c :: st) σ ↔ zK c = 2 ∧ Y19 d Q 20 lv st (zwI σ c 8 x) := yX_at (.putfield 46, 3, 2, 8, 37, 0, []) rfl
theorem g19_20  : Y19 d Q 20 lv st σ ↔ zldR lv 0 (fun x => Y19 d Q 21 lv (.ref x :: st) σ) := yX_at (.aload_n 0, 1, 0, 0, 0, 0, []) rfl
theorem g19_21 {c : Nat} : Y19 d Q 21 lv (.ref c :: st) σ ↔ zK c = 2 ∧ Y19 d Q 24 lv (zfv σ c 3 :: st) σ := yX_at (.getfield 9, 3, 2, 3, 38, 0, []) rfl
theorem g19_24  : Y19 d Q 24 lv st σ ↔ Y19 d Q 25 lv (.int 0 :: st) σ := yX_at (.iconst 0, 1, 0, 0, 0, 0, []) rfl
theorem g19_25 {v0 v1 : Value} : Y19 d Q 25 lv (v1 :: v0 :: st) σ ↔ zrm st ∧ ∃ rv σ', yE d 147 [v0, v1] σ rv σ' ∧ Y19 d Q 28 lv (rv.toList ++ st) σ' := yX_at (.invokestatic 30, 3, 147, 2, 39, 0, []) rfl
theorem g19_28  : Y19 d Q 28 lv st σ ↔ zldR lv 0 (fun x => Y19 d Q 29 lv (.ref x :: st) σ) := yX_at (.aload_n 0, 1, 0, 0, 0, 0, []) rfl
theorem g19_29 {c : Nat} : Y19 d Q 29 lv (.ref c :: st) σ ↔ zK c = 2 ∧ Y19 d Q 32 lv (zfv σ c 4 :: st) σ := yX_at (.getfield 15, 3, 2, 4, 40, 0, []) rfl
theorem g19_32  : Y19 d Q 32 lv st σ ↔ Y19 d Q 33 lv (.int 0 :: st) σ := yX_at (.iconst 0, 1, 0, 0, 0, 0, []) rfl
theorem g19_33 {v0 v1 : Value} : Y19 d Q 33 lv (v1 :: v0 :: st) σ ↔ zrm st ∧ ∃ rv σ', yE d 147 [v0, v1] σ rv σ' ∧ Y19 d Q 36 lv (rv.toList ++ st) σ' := yX_at (.invokestatic 30, 3, 147, 2, 39, 0, []) rfl
theorem g19_36  : Y19 d Q 36 lv st σ ↔ zldR lv 0 (fun x => Y19 d Q 37 lv (.ref x :: st) σ) := yX_at (.aload_n 0, 1, 0, 0, 0, 0, []) rfl
theorem g19_37 {c : Nat} : Y19 d Q 37 lv (.ref c :: st) σ ↔ zK c = 2 ∧ Y19 d Q 40 lv (zfv σ c 5 :: st) σ := yX_at (.getfield 18, 3, 2, 5, 41, 0, []) rfl
theorem g19_40  : Y19 d Q 40 lv st σ ↔ Y19 d Q 41 lv (.int (-1) :: st) σ := by
  rw [show (-1 : Int32) = Int32.ofInt (-1) from by decide]
  exact yX_at (.iconst (-1), 1, 0, 0, 0, 0, []) rfl
theorem g19_41 {v0 v1 : Value} : Y19 d Q 41 lv (v1 :: v0 :: st) σ ↔ zrm st ∧ ∃ rv σ', yE d 147 [v0, v1] σ rv σ' ∧ Y19 d Q 44 lv (rv.toList ++ st) σ' := yX_at (.invokestatic 30, 3, 147, 2, 39, 0, []) rfl
theorem g19_44  : Y19 d Q 44 lv st σ ↔ zldR lv 0 (fun x => Y19 d Q 45 lv (.ref x :: st) σ) := yX_at (.aload_n 0, 1, 0, 0, 0, 0, []) rfl
theorem g19_45 {c : Nat} : Y19 d Q 45 lv (.ref c :: st) σ ↔ zK c = 2 ∧ Y19 d Q 48 lv (zfv σ c 6 :: st) σ := yX_at (.getfield 21, 3, 2, 6, 42, 0, []) rfl
theorem g19_48  : Y19 d Q 48 lv st σ ↔ Y19 d Q 49 lv (.int 0 :: st) σ := yX_at (.iconst 0, 1, 0, 0, 0, 0, []) rfl
theorem g19_49 {v0 v1 : Value} : Y19 d Q 49 lv (v1 :: v0 :: st) σ ↔ zrm st ∧ ∃ rv σ', yE d 147 [v0, v1] σ rv σ' ∧ Y19 d Q 52 lv (rv.toList ++ st) σ' := yX_at (.invokestatic 30, 3, 147, 2, 39, 0, []) rfl
theorem g19_52  : Y19 d Q 52 lv [] σ ↔ Q none σ := yX_at (.return_, 1, 0, 0, 0, 0, []) rfl
end G19
def Y20 (d : Nat) (Q : Option Value → zSt → Prop) (pc : Nat) (lv : zLv) (st : List Value) (σ : zSt) : Prop := yX (yE d) ySn zt20 Q pc lv st σ
theorem C20 {d : Nat} {as : List Value} {σ : zSt} {P : Option Value → zSt → Prop} (hl : (lg_sl as).length ≤ 2) (h : Y20 d P 0 (lv_args 0 as) [] σ) : yC (d + 1) 20 as σ P := yC_of (by decide) hl h
section G20
variable {d : Nat} {Q : Option Value → zSt → Prop} {lv : zLv} {st : List Value} {σ : zSt}
theorem g20_0  : Y20 d Q 0 lv st σ ↔ zldR lv 0 (fun x => Y20 d Q 1 lv (.ref x :: st) σ) := yX_at (.aload_n 0, 1, 0, 0, 0, 0, []) rfl
theorem g20_1  : Y20 d Q 1 lv st σ ↔ zldR lv 1 (fun x => Y20 d Q 2 lv (.ref x :: st) σ) := yX_at (.aload_n 1, 1, 0, 0, 0, 0, []) rfl
theorem g20_2 {c : Nat} : Y20 d Q 2 lv (.ref c :: st) σ ↔ zK c = 2 ∧ Y20 d Q 5 lv (zfv σ c 0 :: st) σ := yX_at (.getfield 36, 3, 2, 0, 34, 0, []) rfl
theorem g20_5 {x : Int32} {c : Nat} : Y20 d Q 5 lv (.int x :: .ref c :: st) σ ↔ zK c = 2 ∧ Y20 d Q 8 lv st (zwI σ c 0 x) := yX_at (.putfield 36, 3, 2, 0, 34, 0, []) rfl
theorem g20_8  : Y20 d Q 8 lv st σ ↔ zldR lv 0 (fun x => Y20 d Q 9 lv (.ref x :: st) σ) := yX_at (.aload_n 0, 1, 0, 0, 0, 0, []) rfl
theorem g20_9  : Y20 d Q 9 lv st σ ↔ zldR lv 1 (fun x => Y20 d Q 10 lv (.ref x :: st) σ) := yX_at (.aload_n 1, 1, 0, 0, 0, 0, []) rfl
theorem g20_10 {c : Nat} : Y20 d Q 10 lv (.ref c :: st) σ ↔ zK c = 2 ∧ Y20 d Q 13 lv (zfv σ c 1 :: st) σ := yX_at (.getfield 40, 3, 2, 1, 35, 0, []) rfl
theorem g20_13 {x : Int32} {c : Nat} : Y20 d Q 13 lv (.int x :: .ref c :: st) σ ↔ zK c = 2 ∧ Y20 d Q 16 lv st (zwI σ c 1 x) := yX_at (.putfield 40, 3, 2, 1, 35, 0, []) rfl
theorem g20_16  : Y20 d Q 16 lv st σ ↔ zldR lv 0 (fun x => Y20 d Q 17 lv (.ref x :: st) σ) := yX_at (.aload_n 0, 1, 0, 0, 0, 0, []) rfl
theorem g20_17  : Y20 d Q 17 lv st σ ↔ zldR lv 1 (fun x => Y20 d Q 18 lv (.ref x :: st) σ) := yX_at (.aload_n 1, 1, 0, 0, 0, 0, []) rfl
theorem g20_18 {c : Nat} : Y20 d Q 18 lv (.ref c :: st) σ ↔ zK c = 2 ∧ Y20 d Q 21 lv (zfv σ c 2 :: st) σ := yX_at (.getfield 43, 3, 2, 2, 36, 0, []) rfl
theorem g20_21 {x : Int32} {c : Nat} : Y20 d Q 21 lv (.int x :: .ref c :: st) σ ↔ zK c = 2 ∧ Y20 d Q 24 lv st (zwI σ c 2 x) := yX_at (.putfield 43, 3, 2, 2, 36, 0, []) rfl
theorem g20_24  : Y20 d Q 24 lv st σ ↔ zldR lv 0 (fun x => Y20 d Q 25 lv (.ref x :: st) σ) := yX_at (.aload_n 0, 1, 0, 0, 0, 0, []) rfl
theorem g20_25  : Y20 d Q 25 lv st σ ↔ zldR lv 1 (fun x => Y20 d Q 26 lv (.ref x :: st) σ) := yX_at (.aload_n 1, 1, 0, 0, 0, 0, []) rfl
theorem g20_26 {c : Nat} : Y20 d Q 26 lv (.ref c :: st) σ ↔ zK c = 2 ∧ Y20 d Q 29 lv (zfv σ c 8 :: st) σ := yX_at (.getfield 46, 3, 2, 8, 37, 0, []) rfl
theorem g20_29 {x : Int32} {c : Nat} : Y20 d Q 29 lv (.int x :: .ref c :: st) σ ↔ zK c = 2 ∧ Y20 d Q 32 lv st (zwI σ c 8 x) := yX_at (.putfield 46, 3, 2, 8, 37, 0, []) rfl
theorem g20_32  : Y20 d Q 32 lv st σ ↔ zldR lv 1 (fun x => Y20 d Q 33 lv (.ref x :: st) σ) := yX_at (.aload_n 1, 1, 0, 0, 0, 0, []) rfl
theorem g20_33 {c : Nat} : Y20 d Q 33 lv (.ref c :: st) σ ↔ zK c = 2 ∧ Y20 d Q 36 lv (zfv σ c 3 :: st) σ := yX_at (.getfield 9, 3, 2, 3, 38, 0, []) rfl
theorem g20_36  : Y20 d Q 36 lv st σ ↔ Y20 d Q 37 lv (.int 0 :: st) σ := yX_at (.iconst 0, 1, 0, 0, 0, 0, []) rfl
theorem g20_37  : Y20 d Q 37 lv st σ ↔ zldR lv 0 (fun x => Y20 d Q 38 lv (.ref x :: st) σ) := yX_at (.aload_n 0, 1, 0, 0, 0, 0, []) rfl
theorem g20_38 {c : Nat} : Y20 d Q 38 lv (.ref c :: st) σ ↔ zK c = 2 ∧ Y20 d Q 41 lv (zfv σ c 3 :: st) σ := yX_at (.getfield 9, 3, 2, 3, 38, 0, []) rfl
theorem g20_41  : Y20 d Q 41 lv st σ ↔ Y20 d Q 42 lv (.int 0 :: st) σ := yX_at (.iconst 0, 1, 0, 0, 0, 0, []) rfl
theorem g20_42  : Y20 d Q 42 lv st σ ↔ Y20 d Q 44 lv (.int 8 :: st) σ := yX_at (.bipush 8, 2, 0, 0, 0, 0, []) rfl
theorem g20_44 {n dp sp : Int32} {c0 c1 : Nat} : Y20 d Q 44 lv (.int n :: .int dp :: .ref c1 :: .int sp :: .ref c0 :: st) σ ↔ (zK c0 = 100 ∧ zK c1 = 100 ∧ st = [] ∧ (¬ sp < 0) ∧ (¬ dp < 0) ∧ (¬ n < 0) ∧ sp.toNatClampNeg + n.toNatClampNeg ≤ zLn c0 ∧ dp.toNatClampNeg + n.toNatClampNeg ≤ zLn c1) ∧ Y20 d Q 47 lv st (zwA σ c1 (va_cpy (σ.1 c0) (σ.1 c1) sp.toNatClampNeg dp.toNatClampNeg n.toNatClampNeg)) := yX_at (.invokestatic 49, 3, 900, 5, 43, 0, []) rfl
theorem g20_47  : Y20 d Q 47 lv st σ ↔ zldR lv 1 (fun x => Y20 d Q 48 lv (.ref x :: st) σ) := yX_at (.aload_n 1, 1, 0, 0, 0, 0, []) rfl
theorem g20_48 {c : Nat} : Y20 d Q 48 lv (.ref c :: st) σ ↔ zK c = 2 ∧ Y20 d Q 51 lv (zfv σ c 4 :: st) σ := yX_at (.getfield 15, 3, 2, 4, 40, 0, []) rfl
theorem g20_51  : Y20 d Q 51 lv st σ ↔ Y20 d Q 52 lv (.int 0 :: st) σ := yX_at (.iconst 0, 1, 0, 0, 0, 0, []) rfl
theorem g20_52  : Y20 d Q 52 lv st σ ↔ zldR lv 0 (fun x => Y20 d Q 53 lv (.ref x :: st) σ) := yX_at (.aload_n 0, 1, 0, 0, 0, 0, []) rfl
theorem g20_53 {c : Nat} : Y20 d Q 53 lv (.ref c :: st) σ ↔ zK c = 2 ∧ Y20 d Q 56 lv (zfv σ c 4 :: st) σ := yX_at (.getfield 15, 3, 2, 4, 40, 0, []) rfl
theorem g20_56  : Y20 d Q 56 lv st σ ↔ Y20 d Q 57 lv (.int 0 :: st) σ := yX_at (.iconst 0, 1, 0, 0, 0, 0, []) rfl
theorem g20_57  : Y20 d Q 57 lv st σ ↔ Y20 d Q 59 lv (.int 8 :: st) σ := yX_at (.bipush 8, 2, 0, 0, 0, 0, []) rfl
theorem g20_59 {n dp sp : Int32} {c0 c1 : Nat} : Y20 d Q 59 lv (.int n :: .int dp :: .ref c1 :: .int sp :: .ref c0 :: st) σ ↔ (zK c0 = 100 ∧ zK c1 = 100 ∧ st = [] ∧ (¬ sp < 0) ∧ (¬ dp < 0) ∧ (¬ n < 0) ∧ sp.toNatClampNeg + n.toNatClampNeg ≤ zLn c0 ∧ dp.toNatClampNeg + n.toNatClampNeg ≤ zLn c1) ∧ Y20 d Q 62 lv st (zwA σ c1 (va_cpy (σ.1 c0) (σ.1 c1) sp.toNatClampNeg dp.toNatClampNeg n.toNatClampNeg)) := yX_at (.invokestatic 49, 3, 900, 5, 43, 0, []) rfl
theorem g20_62  : Y20 d Q 62 lv st σ ↔ zldR lv 1 (fun x => Y20 d Q 63 lv (.ref x :: st) σ) := yX_at (.aload_n 1, 1, 0, 0, 0, 0, []) rfl
theorem g20_63 {c : Nat} : Y20 d Q 63 lv (.ref c :: st) σ ↔ zK c = 2 ∧ Y20 d Q 66 lv (zfv σ c 5 :: st) σ := yX_at (.getfield 18, 3, 2, 5, 41, 0, []) rfl
theorem g20_66  : Y20 d Q 66 lv st σ ↔ Y20 d Q 67 lv (.int 0 :: st) σ := yX_at (.iconst 0, 1, 0, 0, 0, 0, []) rfl
theorem g20_67  : Y20 d Q 67 lv st σ ↔ zldR lv 0 (fun x => Y20 d Q 68 lv (.ref x :: st) σ) := yX_at (.aload_n 0, 1, 0, 0, 0, 0, []) rfl
theorem g20_68 {c : Nat} : Y20 d Q 68 lv (.ref c :: st) σ ↔ zK c = 2 ∧ Y20 d Q 71 lv (zfv σ c 5 :: st) σ := yX_at (.getfield 18, 3, 2, 5, 41, 0, []) rfl
theorem g20_71  : Y20 d Q 71 lv st σ ↔ Y20 d Q 72 lv (.int 0 :: st) σ := yX_at (.iconst 0, 1, 0, 0, 0, 0, []) rfl
theorem g20_72  : Y20 d Q 72 lv st σ ↔ Y20 d Q 74 lv (.int 8 :: st) σ := yX_at (.bipush 8, 2, 0, 0, 0, 0, []) rfl
theorem g20_74 {n dp sp : Int32} {c0 c1 : Nat} : Y20 d Q 74 lv (.int n :: .int dp :: .ref c1 :: .int sp :: .ref c0 :: st) σ ↔ (zK c0 = 100 ∧ zK c1 = 100 ∧ st = [] ∧ (¬ sp < 0) ∧ (¬ dp < 0) ∧ (¬ n < 0) ∧ sp.toNatClampNeg + n.toNatClampNeg ≤ zLn c0 ∧ dp.toNatClampNeg + n.toNatClampNeg ≤ zLn c1) ∧ Y20 d Q 77 lv st (zwA σ c1 (va_cpy (σ.1 c0) (σ.1 c1) sp.toNatClampNeg dp.toNatClampNeg n.toNatClampNeg)) := yX_at (.invokestatic 49, 3, 900, 5, 43, 0, []) rfl
theorem g20_77  : Y20 d Q 77 lv st σ ↔ zldR lv 1 (fun x => Y20 d Q 78 lv (.ref x :: st) σ) := yX_at (.aload_n 1, 1, 0, 0, 0, 0, []) rfl
theorem g20_78 {c : Nat} : Y20 d Q 78 lv (.ref c :: st) σ ↔ zK c = 2 ∧ Y20 d Q 81 lv (zfv σ c 6 :: st) σ := yX_at (.getfield 21, 3, 2, 6, 42, 0, []) rfl
theorem g20_81  : Y20 d Q 81 lv st σ ↔ Y20 d Q 82 lv (.int 0 :: st) σ := yX_at (.iconst 0, 1, 0, 0, 0, 0, []) rfl
theorem g20_82  : Y20 d Q 82 lv st σ ↔ zldR lv 0 (fun x => Y20 d Q 83 lv (.ref x :: st) σ) := yX_at (.aload_n 0, 1, 0, 0, 0, 0, []) rfl
theorem g20_83 {c : Nat} : Y20 d Q 83 lv (.ref c :: st) σ ↔ zK c = 2 ∧ Y20 d Q 86 lv (zfv σ c 6 :: st) σ := yX_at (.getfield 21, 3, 2, 6, 42, 0, []) rfl
theorem g20_86  : Y20 d Q 86 lv st σ ↔ Y20 d Q 87 lv (.int 0 :: st) σ := yX_at (.iconst 0, 1, 0, 0, 0, 0, []) rfl
theorem g20_87  : Y20 d Q 87 lv st σ ↔ Y20 d Q 88 lv (.int 4 :: st) σ := yX_at (.iconst 4, 1, 0, 0, 0, 0, []) rfl
theorem g20_88 {n dp sp : Int32} {c0 c1 : Nat} : Y20 d Q 88 lv (.int n :: .int dp :: .ref c1 :: .int sp :: .ref c0 :: st) σ ↔ (zK c0 = 100 ∧ zK c1 = 100 ∧ st = [] ∧ (¬ sp < 0) ∧ (¬ dp < 0) ∧ (¬ n < 0) ∧ sp.toNatClampNeg + n.toNatClampNeg ≤ zLn c0 ∧ dp.toNatClampNeg + n.toNatClampNeg ≤ zLn c1) ∧ Y20 d Q 91 lv st (zwA σ c1 (va_cpy (σ.1 c0) (σ.1 c1) sp.toNatClampNeg dp.toNatClampNeg n.toNatClampNeg)) := yX_at (.invokestatic 49, 3, 900, 5, 43, 0, []) rfl
theorem g20_91  : Y20 d Q 91 lv st σ ↔ zldR lv 1 (fun x => Y20 d Q 92 lv (.ref x :: st) σ) := yX_at (.aload_n 1, 1, 0, 0, 0, 0, []) rfl
theorem g20_92 {c : Nat} : Y20 d Q 92 lv (.ref c :: st) σ ↔ zK c = 2 ∧ Y20 d Q 95 lv (zfv σ c 7 :: st) σ := yX_at (.getfield 24, 3, 2, 7, 44, 0, []) rfl
theorem g20_95  : Y20 d Q 95 lv st σ ↔ Y20 d Q 96 lv (.int 0 :: st) σ := yX_at (.iconst 0, 1, 0, 0, 0, 0, []) rfl
theorem g20_96  : Y20 d Q 96 lv st σ ↔ zldR lv 0 (fun x => Y20 d Q 97 lv (.ref x :: st) σ) := yX_at (.aload_n 0, 1, 0, 0, 0, 0, []) rfl
theorem g20_97 {c : Nat} : Y20 d Q 97 lv (.ref c :: st) σ ↔ zK c = 2 ∧ Y20 d Q 100 lv (zfv σ c 7 :: st) σ := yX_at (.getfield 24, 3, 2, 7, 44, 0, []) rfl
theorem g20_100  : Y20 d Q 100 lv st σ ↔ Y20 d Q 101 lv (.int 0 :: st) σ := yX_at (.iconst 0, 1, 0, 0, 0, 0, []) rfl
theorem g20_101  : Y20 d Q 101 lv st σ ↔ Y20 d Q 103 lv (.int 20 :: st) σ := yX_at (.bipush 20, 2, 0, 0, 0, 0, []) rfl
theorem g20_103 {n dp sp : Int32} {c0 c1 : Nat} : Y20 d Q 103 lv (.int n :: .int dp :: .ref c1 :: .int sp :: .ref c0 :: st) σ ↔ (zK c0 = 100 ∧ zK c1 = 100 ∧ st = [] ∧ (¬ sp < 0) ∧ (¬ dp < 0) ∧ (¬ n < 0) ∧ sp.toNatClampNeg + n.toNatClampNeg ≤ zLn c0 ∧ dp.toNatClampNeg + n.toNatClampNeg ≤ zLn c1) ∧ Y20 d Q 106 lv st (zwA σ c1 (va_cpy (σ.1 c0) (σ.1 c1) sp.toNatClampNeg dp.toNatClampNeg n.toNatClampNeg)) := yX_at (.invokestatic 49, 3, 900, 5, 43, 0, []) rfl
theorem g20_106  : Y20 d Q 106 lv st σ ↔ zldR lv 1 (fun x => Y20 d Q 107 lv (.ref x :: st) σ) := yX_at (.aload_n 1, 1, 0, 0, 0, 0, []) rfl
theorem g20_107 {c : Nat} : Y20 d Q 107 lv (.ref c :: st) σ ↔ zK c = 2 ∧ Y20 d Q 110 lv (zfv σ c 9 :: st) σ := yX_at (.getfield 27, 3, 2, 9, 45, 0, []) rfl
theorem g20_110  : Y20 d Q 110 lv st σ ↔ Y20 d Q 111 lv (.int 0 :: st) σ := yX_at (.iconst 0, 1, 0, 0, 0, 0, []) rfl
theorem g20_111  : Y20 d Q 111 lv st σ ↔ zldR lv 0 (fun x => Y20 d Q 112 lv (.ref x :: st) σ) := yX_at (.aload_n 0, 1, 0, 0, 0, 0, []) rfl
theorem g20_112 {c : Nat} : Y20 d Q 112 lv (.ref c :: st) σ ↔ zK c = 2 ∧ Y20 d Q 115 lv (zfv σ c 9 :: st) σ := yX_at (.getfield 27, 3, 2, 9, 45, 0, []) rfl
theorem g20_115  : Y20 d Q 115 lv st σ ↔ Y20 d Q 116 lv (.int 0 :: st) σ := yX_at (.iconst 0, 1, 0, 0, 0, 0, []) rfl
theorem g20_116  : Y20 d Q 116 lv st σ ↔ Y20 d Q 118 lv (.int 60 :: st) σ := yX_at (.bipush 60, 2, 0, 0, 0, 0, []) rfl
theorem g20_118 {n dp sp : Int32} {c0 c1 : Nat} : Y20 d Q 118 lv (.int n :: .int dp :: .ref c1 :: .int sp :: .ref c0 :: st) σ ↔ (zK c0 = 100 ∧ zK c1 = 100 ∧ st = [] ∧ (¬ sp < 0) ∧ (¬ dp < 0) ∧ (¬ n < 0) ∧ sp.toNatClampNeg + n.toNatClampNeg ≤ zLn c0 ∧ dp.toNatClampNeg + n.toNatClampNeg ≤ zLn c1) ∧ Y20 d Q 121 lv st (zwA σ c1 (va_cpy (σ.1 c0) (σ.1 c1) sp.toNatClampNeg dp.toNatClampNeg n.toNatClampNeg)) := yX_at (.invokestatic 49, 3, 900, 5, 43, 0, []) rfl
theorem g20_121  : Y20 d Q 121 lv [] σ ↔ Q none σ := yX_at (.return_, 1, 0, 0, 0, 0, []) rfl
end G20
def Y21 (d : Nat) (Q : Option Value → zSt → Prop) (pc : Nat) (lv : zLv) (st : List Value) (σ : zSt) : Prop := yX (yE d) ySn zt21 Q pc lv st σ
theorem C21 {d : Nat} {as : List Value} {σ : zSt} {P : Option Value → zSt → Prop} (hl : (lg_sl as).length ≤ 3) (h : Y21 d P 0 (lv_args 0 as) [] σ) : yC (d + 1) 21 as σ P := yC_of (by decide) hl h
section G21
variable {d : Nat} {Q : Option Value → zSt → Prop} {lv : zLv} {st : List Value} {σ : zSt}
theorem g21_0  : Y21 d Q 0 lv st σ ↔ zldR lv 0 (fun x => Y21 d Q 1 lv (.ref x :: st) σ) := yX_at (.aload_n 0, 1, 0, 0, 0, 0, []) rfl
theorem g21_1 {c : Nat} : Y21 d Q 1 lv (.ref c :: st) σ ↔ zK c = 2 ∧ Y21 d Q 4 lv (zfv σ c 7 :: st) σ := yX_at (.getfield 24, 3, 2, 7, 44, 0, []) rfl
theorem g21_4  : Y21 d Q 4 lv st σ ↔ zldI lv 1 (fun x => Y21 d Q 5 lv (.int x :: st) σ) := yX_at (.iload_n 1, 1, 0, 0, 0, 0, []) rfl
theorem g21_5  : Y21 d Q 5 lv st σ ↔ Y21 d Q 6 lv (.int 5 :: st) σ := yX_at (.iconst 5, 1, 0, 0, 0, 0, []) rfl
theorem g21_6 {x y : Int32} : Y21 d Q 6 lv (.int y :: .int x :: st) σ ↔ Y21 d Q 7 lv (.int (x * y) :: st) σ := yX_at (.imul, 1, 0, 0, 0, 0, []) rfl
theorem g21_7  : Y21 d Q 7 lv st σ ↔ zldI lv 2 (fun x => Y21 d Q 8 lv (.int x :: st) σ) := yX_at (.iload_n 2, 1, 0, 0, 0, 0, []) rfl
theorem g21_8 {x y : Int32} : Y21 d Q 8 lv (.int y :: .int x :: st) σ ↔ Y21 d Q 9 lv (.int (x + y) :: st) σ := yX_at (.iadd, 1, 0, 0, 0, 0, []) rfl
theorem g21_9 {j : Int32} {c : Nat} : Y21 d Q 9 lv (.int j :: .ref c :: st) σ ↔ (zK c = 100 ∧ vp_in j (zLn c)) ∧ Y21 d Q 10 lv (.int (σ.1 c j.toNatClampNeg) :: st) σ := yX_at (.iaload, 1, 0, 0, 0, 0, []) rfl
theorem g21_10 {x : Int32} : Y21 d Q 10 lv [.int x] σ ↔ Q (some (.int x)) σ := yX_at (.ireturn, 1, 0, 0, 0, 0, []) rfl
end G21
