def Y38 (d : Nat) (Q : Option Value → zSt → Prop) (pc : Nat) (lv : zLv) (st : List Value) (σ : zSt) : Prop := yX (yE d) ySn zt38 Q pc lv st σ
theorem C38 {d : Nat} {as : List Value} {σ : zSt} {P : Option Value → zSt → Prop} (hl : (lg_sl as).length ≤ 2) (h : Y38 d P 0 (lv_args 0 as) [] σ) : yC (d + 1) 38 as σ P := yC_of (by decide) hl h
section G38
variable {d : Nat} {Q : Option Value → zSt → Prop} {lv : zLv} {st : List Value} {σ : zSt}
theorem g38_0  : Y38 d Q 0 lv st σ ↔ zldR lv 1 (fun x => Y38 d Q 1 lv (.ref x :: st) σ) := yX_at (.aload_n 1, 1, 0, 0, 0, 0, []) rfl
theorem g38_1 {c : Nat} : Y38 d Q 1 lv (.ref c :: st) σ ↔ zK c = 5 ∧ Y38 d Q 4 lv (zfv σ c 0 :: st) σ := yX_at (.getfield 60, 3, 5, 0, 77, 0, []) rfl
theorem g38_4  : Y38 d Q 4 lv st σ ↔ Y38 d Q 5 lv (.int 4 :: st) σ := yX_at (.iconst 4, 1, 0, 0, 0, 0, []) rfl
theorem g38_5 {x y : Int32} : Y38 d Q 5 lv (.int y :: .int x :: st) σ ↔ (x < y → Y38 d Q 10 lv st σ) ∧ (¬ x < y → Y38 d Q 8 lv st σ) := yX_at (.if_icmp .lt 5, 3, 10, 0, 0, 0, []) rfl
theorem g38_8  : Y38 d Q 8 lv st σ ↔ Y38 d Q 9 lv (.int 0 :: st) σ := yX_at (.iconst 0, 1, 0, 0, 0, 0, []) rfl
theorem g38_9 {x : Int32} : Y38 d Q 9 lv [.int x] σ ↔ (x = 0 ∨ x = 1) ∧ Q (some (.int x)) σ := yX_at (.ireturn, 1, 1, 0, 0, 0, []) rfl
theorem g38_10  : Y38 d Q 10 lv st σ ↔ zldR lv 0 (fun x => Y38 d Q 11 lv (.ref x :: st) σ) := yX_at (.aload_n 0, 1, 0, 0, 0, 0, []) rfl
theorem g38_11  : Y38 d Q 11 lv st σ ↔ Y38 d Q 12 lv (.int 0 :: st) σ := yX_at (.iconst 0, 1, 0, 0, 0, 0, []) rfl
theorem g38_12  : Y38 d Q 12 lv st σ ↔ Y38 d Q 13 lv (.int 1 :: st) σ := yX_at (.iconst 1, 1, 0, 0, 0, 0, []) rfl
theorem g38_13  : Y38 d Q 13 lv st σ ↔ Y38 d Q 14 lv (.int 5 :: st) σ := yX_at (.iconst 5, 1, 0, 0, 0, 0, []) rfl
theorem g38_14 {v0 v1 v2 : Value} {c : Nat} : Y38 d Q 14 lv (v2 :: v1 :: v0 :: .ref c :: st) σ ↔ (zrcv 4 c ∧ zrm st) ∧ ∃ rv σ', yE d 41 [.ref c, v0, v1, v2] σ rv σ' ∧ Y38 d Q 17 lv (rv.toList ++ st) σ' := yX_at (.invokevirtual 63, 3, 41, 3, 78, 0, []) rfl
theorem g38_17 {x : Int32} : Y38 d Q 17 lv (.int x :: st) σ ↔ (x = 0 → Y38 d Q 48 lv st σ) ∧ (¬ x = 0 → Y38 d Q 20 lv st σ) := yX_at (.ifCond .eq 31, 3, 48, 0, 0, 0, []) rfl
theorem g38_20  : Y38 d Q 20 lv st σ ↔ zldR lv 0 (fun x => Y38 d Q 21 lv (.ref x :: st) σ) := yX_at (.aload_n 0, 1, 0, 0, 0, 0, []) rfl
theorem g38_21  : Y38 d Q 21 lv st σ ↔ Y38 d Q 22 lv (.int 1 :: st) σ := yX_at (.iconst 1, 1, 0, 0, 0, 0, []) rfl
theorem g38_22  : Y38 d Q 22 lv st σ ↔ Y38 d Q 23 lv (.int 1 :: st) σ := yX_at (.iconst 1, 1, 0, 0, 0, 0, []) rfl
theorem g38_23  : Y38 d Q 23 lv st σ ↔ Y38 d Q 24 lv (.int 3 :: st) σ := yX_at (.iconst 3, 1, 0, 0, 0, 0, []) rfl
theorem g38_24 {v0 v1 v2 : Value} {c : Nat} : Y38 d Q 24 lv (v2 :: v1 :: v0 :: .ref c :: st) σ ↔ (zrcv 4 c ∧ zrm st) ∧ ∃ rv σ', yE d 41 [.ref c, v0, v1, v2] σ rv σ' ∧ Y38 d Q 27 lv (rv.toList ++ st) σ' := yX_at (.invokevirtual 63, 3, 41, 3, 78, 0, []) rfl
theorem g38_27 {x : Int32} : Y38 d Q 27 lv (.int x :: st) σ ↔ (x = 0 → Y38 d Q 48 lv st σ) ∧ (¬ x = 0 → Y38 d Q 30 lv st σ) := yX_at (.ifCond .eq 21, 3, 48, 0, 0, 0, []) rfl
theorem g38_30  : Y38 d Q 30 lv st σ ↔ zldR lv 0 (fun x => Y38 d Q 31 lv (.ref x :: st) σ) := yX_at (.aload_n 0, 1, 0, 0, 0, 0, []) rfl
theorem g38_31  : Y38 d Q 31 lv st σ ↔ Y38 d Q 32 lv (.int 2 :: st) σ := yX_at (.iconst 2, 1, 0, 0, 0, 0, []) rfl
theorem g38_32  : Y38 d Q 32 lv st σ ↔ Y38 d Q 33 lv (.int 0 :: st) σ := yX_at (.iconst 0, 1, 0, 0, 0, 0, []) rfl
theorem g38_33  : Y38 d Q 33 lv st σ ↔ Y38 d Q 35 lv (.int 9 :: st) σ := yX_at (.bipush 9, 2, 0, 0, 0, 0, []) rfl
theorem g38_35 {v0 v1 v2 : Value} {c : Nat} : Y38 d Q 35 lv (v2 :: v1 :: v0 :: .ref c :: st) σ ↔ (zrcv 4 c ∧ zrm st) ∧ ∃ rv σ', yE d 41 [.ref c, v0, v1, v2] σ rv σ' ∧ Y38 d Q 38 lv (rv.toList ++ st) σ' := yX_at (.invokevirtual 63, 3, 41, 3, 78, 0, []) rfl
theorem g38_38 {x : Int32} : Y38 d Q 38 lv (.int x :: st) σ ↔ (x = 0 → Y38 d Q 48 lv st σ) ∧ (¬ x = 0 → Y38 d Q 41 lv st σ) := yX_at (.ifCond .eq 10, 3, 48, 0, 0, 0, []) rfl
theorem g38_41  : Y38 d Q 41 lv st σ ↔ zldR lv 0 (fun x => Y38 d Q 42 lv (.ref x :: st) σ) := yX_at (.aload_n 0, 1, 0, 0, 0, 0, []) rfl
theorem g38_42 {c : Nat} : Y38 d Q 42 lv (.ref c :: st) σ ↔ (zrcv 4 c ∧ zrm st) ∧ ∃ rv σ', yE d 42 [.ref c] σ rv σ' ∧ Y38 d Q 45 lv (rv.toList ++ st) σ' := yX_at (.invokevirtual 67, 3, 42, 0, 79, 0, []) rfl
theorem g38_45 {x : Int32} : Y38 d Q 45 lv (.int x :: st) σ ↔ (¬ x = 0 → Y38 d Q 50 lv st σ) ∧ (x = 0 → Y38 d Q 48 lv st σ) := yX_at (.ifCond .ne 5, 3, 50, 0, 0, 0, []) rfl
theorem g38_48  : Y38 d Q 48 lv st σ ↔ Y38 d Q 49 lv (.int 0 :: st) σ := yX_at (.iconst 0, 1, 0, 0, 0, 0, []) rfl
theorem g38_49 {x : Int32} : Y38 d Q 49 lv [.int x] σ ↔ (x = 0 ∨ x = 1) ∧ Q (some (.int x)) σ := yX_at (.ireturn, 1, 1, 0, 0, 0, []) rfl
theorem g38_50  : Y38 d Q 50 lv st σ ↔ zldR lv 1 (fun x => Y38 d Q 51 lv (.ref x :: st) σ) := yX_at (.aload_n 1, 1, 0, 0, 0, 0, []) rfl
theorem g38_51  : Y38 d Q 51 lv st σ ↔ zldR lv 0 (fun x => Y38 d Q 52 lv (.ref x :: st) σ) := yX_at (.aload_n 0, 1, 0, 0, 0, 0, []) rfl
theorem g38_52 {c : Nat} : Y38 d Q 52 lv (.ref c :: st) σ ↔ zK c = 4 ∧ Y38 d Q 55 lv (zfv σ c 6 :: st) σ := yX_at (.getfield 15, 3, 4, 6, 80, 0, []) rfl
theorem g38_55 {v0 : Value} {c : Nat} : Y38 d Q 55 lv (v0 :: .ref c :: st) σ ↔ (zrcv 5 c ∧ zrm st) ∧ ∃ rv σ', yE d 52 [.ref c, v0] σ rv σ' ∧ Y38 d Q 58 lv (rv.toList ++ st) σ' := yX_at (.invokevirtual 71, 3, 52, 1, 81, 0, []) rfl
theorem g38_58  : Y38 d Q 58 lv st σ ↔ Y38 d Q 59 lv (.int 1 :: st) σ := yX_at (.iconst 1, 1, 0, 0, 0, 0, []) rfl
theorem g38_59 {x : Int32} : Y38 d Q 59 lv [.int x] σ ↔ (x = 0 ∨ x = 1) ∧ Q (some (.int x)) σ := yX_at (.ireturn, 1, 1, 0, 0, 0, []) rfl
end G38
def Y39 (d : Nat) (Q : Option Value → zSt → Prop) (pc : Nat) (lv : zLv) (st : List Value) (σ : zSt) : Prop := yX (yE d) ySn zt39 Q pc lv st σ
theorem C39 {d : Nat} {as : List Value} {σ : zSt} {P : Option Value → zSt → Prop} (hl : (lg_sl as).length ≤ 2) (h : Y39 d P 0 (lv_args 0 as) [] σ) : yC (d + 1) 39 as σ P := yC_of (by decide) hl h
section G39
variable {d : Nat} {Q : Option Value → zSt → Prop} {lv : zLv} {st : List Value} {σ : zSt}
theorem g39_0  : Y39 d Q 0 lv st σ ↔ zldR lv 1 (fun x => Y39 d Q 1 lv (.ref x :: st) σ) := yX_at (.aload_n 1, 1, 0, 0, 0, 0, []) rfl
theorem g39_1 {c : Nat} : Y39 d Q 1 lv (.ref c :: st) σ ↔ zK c = 5 ∧ Y39 d Q 4 lv (zfv σ c 4 :: st) σ := yX_at (.getfield 75, 3, 5, 4, 82, 0, []) rfl
theorem g39_4  : Y39 d Q 4 lv st σ ↔ Y39 d Q 6 lv (.int 8 :: st) σ := yX_at (.bipush 8, 2, 0, 0, 0, 0, []) rfl
theorem g39_6 {x y : Int32} : Y39 d Q 6 lv (.int y :: .int x :: st) σ ↔ (x < y → Y39 d Q 11 lv st σ) ∧ (¬ x < y → Y39 d Q 9 lv st σ) := yX_at (.if_icmp .lt 5, 3, 11, 0, 0, 0, []) rfl
theorem g39_9  : Y39 d Q 9 lv st σ ↔ Y39 d Q 10 lv (.int 0 :: st) σ := yX_at (.iconst 0, 1, 0, 0, 0, 0, []) rfl
theorem g39_10 {x : Int32} : Y39 d Q 10 lv [.int x] σ ↔ (x = 0 ∨ x = 1) ∧ Q (some (.int x)) σ := yX_at (.ireturn, 1, 1, 0, 0, 0, []) rfl
theorem g39_11  : Y39 d Q 11 lv st σ ↔ zldR lv 0 (fun x => Y39 d Q 12 lv (.ref x :: st) σ) := yX_at (.aload_n 0, 1, 0, 0, 0, 0, []) rfl
theorem g39_12  : Y39 d Q 12 lv st σ ↔ Y39 d Q 13 lv (.int 0 :: st) σ := yX_at (.iconst 0, 1, 0, 0, 0, 0, []) rfl
theorem g39_13  : Y39 d Q 13 lv st σ ↔ Y39 d Q 14 lv (.int 0 :: st) σ := yX_at (.iconst 0, 1, 0, 0, 0, 0, []) rfl
theorem g39_14  : Y39 d Q 14 lv st σ ↔ zldR lv 1 (fun x => Y39 d Q 15 lv (.ref x :: st) σ) := yX_at (.aload_n 1, 1, 0, 0, 0, 0, []) rfl
theorem g39_15 {c : Nat} : Y39 d Q 15 lv (.ref c :: st) σ ↔ zK c = 5 ∧ Y39 d Q 18 lv (zfv σ c 0 :: st) σ := yX_at (.getfield 60, 3, 5, 0, 77, 0, []) rfl
theorem g39_18  : Y39 d Q 18 lv st σ ↔ Y39 d Q 19 lv (.int 1 :: st) σ := yX_at (.iconst 1, 1, 0, 0, 0, 0, []) rfl
theorem g39_19 {x y : Int32} : Y39 d Q 19 lv (.int y :: .int x :: st) σ ↔ Y39 d Q 20 lv (.int (x - y) :: st) σ := yX_at (.isub, 1, 0, 0, 0, 0, []) rfl
theorem g39_20 {v0 v1 v2 : Value} {c : Nat} : Y39 d Q 20 lv (v2 :: v1 :: v0 :: .ref c :: st) σ ↔ (zrcv 4 c ∧ zrm st) ∧ ∃ rv σ', yE d 41 [.ref c, v0, v1, v2] σ rv σ' ∧ Y39 d Q 23 lv (rv.toList ++ st) σ' := yX_at (.invokevirtual 63, 3, 41, 3, 78, 0, []) rfl
theorem g39_23 {x : Int32} : Y39 d Q 23 lv (.int x :: st) σ ↔ (x = 0 → Y39 d Q 48 lv st σ) ∧ (¬ x = 0 → Y39 d Q 26 lv st σ) := yX_at (.ifCond .eq 25, 3, 48, 0, 0, 0, []) rfl
theorem g39_26  : Y39 d Q 26 lv st σ ↔ zldR lv 0 (fun x => Y39 d Q 27 lv (.ref x :: st) σ) := yX_at (.aload_n 0, 1, 0, 0, 0, 0, []) rfl
theorem g39_27  : Y39 d Q 27 lv st σ ↔ Y39 d Q 28 lv (.int 1 :: st) σ := yX_at (.iconst 1, 1, 0, 0, 0, 0, []) rfl
theorem g39_28  : Y39 d Q 28 lv st σ ↔ Y39 d Q 29 lv (.int 0 :: st) σ := yX_at (.iconst 0, 1, 0, 0, 0, 0, []) rfl
theorem g39_29  : Y39 d Q 29 lv st σ ↔ Y39 d Q 31 lv (.int 9 :: st) σ := yX_at (.bipush 9, 2, 0, 0, 0, 0, []) rfl
theorem g39_31 {v0 v1 v2 : Value} {c : Nat} : Y39 d Q 31 lv (v2 :: v1 :: v0 :: .ref c :: st) σ ↔ (zrcv 4 c ∧ zrm st) ∧ ∃ rv σ', yE d 41 [.ref c, v0, v1, v2] σ rv σ' ∧ Y39 d Q 34 lv (rv.toList ++ st) σ' := yX_at (.invokevirtual 63, 3, 41, 3, 78, 0, []) rfl
theorem g39_34 {x : Int32} : Y39 d Q 34 lv (.int x :: st) σ ↔ (x = 0 → Y39 d Q 48 lv st σ) ∧ (¬ x = 0 → Y39 d Q 37 lv st σ) := yX_at (.ifCond .eq 14, 3, 48, 0, 0, 0, []) rfl
theorem g39_37  : Y39 d Q 37 lv st σ ↔ zldR lv 0 (fun x => Y39 d Q 38 lv (.ref x :: st) σ) := yX_at (.aload_n 0, 1, 0, 0, 0, 0, []) rfl
theorem g39_38  : Y39 d Q 38 lv st σ ↔ Y39 d Q 39 lv (.int 2 :: st) σ := yX_at (.iconst 2, 1, 0, 0, 0, 0, []) rfl
theorem g39_39  : Y39 d Q 39 lv st σ ↔ Y39 d Q 40 lv (.int 1 :: st) σ := yX_at (.iconst 1, 1, 0, 0, 0, 0, []) rfl
theorem g39_40  : Y39 d Q 40 lv st σ ↔ Y39 d Q 42 lv (.int 9 :: st) σ := yX_at (.bipush 9, 2, 0, 0, 0, 0, []) rfl
theorem g39_42 {v0 v1 v2 : Value} {c : Nat} : Y39 d Q 42 lv (v2 :: v1 :: v0 :: .ref c :: st) σ ↔ (zrcv 4 c ∧ zrm st) ∧ ∃ rv σ', yE d 41 [.ref c, v0, v1, v2] σ rv σ' ∧ Y39 d Q 45 lv (rv.toList ++ st) σ' := yX_at (.invokevirtual 63, 3, 41, 3, 78, 0, []) rfl
theorem g39_45 {x : Int32} : Y39 d Q 45 lv (.int x :: st) σ ↔ (¬ x = 0 → Y39 d Q 50 lv st σ) ∧ (x = 0 → Y39 d Q 48 lv st σ) := yX_at (.ifCond .ne 5, 3, 50, 0, 0, 0, []) rfl
theorem g39_48  : Y39 d Q 48 lv st σ ↔ Y39 d Q 49 lv (.int 0 :: st) σ := yX_at (.iconst 0, 1, 0, 0, 0, 0, []) rfl
theorem g39_49 {x : Int32} : Y39 d Q 49 lv [.int x] σ ↔ (x = 0 ∨ x = 1) ∧ Q (some (.int x)) σ := yX_at (.ireturn, 1, 1, 0, 0, 0, []) rfl
theorem g39_50  : Y39 d Q 50 lv st σ ↔ zldR lv 0 (fun x => Y39 d Q 51 lv (.ref x :: st) σ) := yX_at (.aload_n 0, 1, 0, 0, 0, 0, []) rfl
theorem g39_51  : Y39 d Q 51 lv st σ ↔ Y39 d Q 52 lv (.int 3 :: st) σ := yX_at (.iconst 3, 1, 0, 0, 0, 0, []) rfl
theorem g39_52  : Y39 d Q 52 lv st σ ↔ Y39 d Q 53 lv (.int 1 :: st) σ := yX_at (.iconst 1, 1, 0, 0, 0, 0, []) rfl
theorem g39_53  : Y39 d Q 53 lv st σ ↔ Y39 d Q 55 lv (.int 99 :: st) σ := yX_at (.bipush 99, 2, 0, 0, 0, 0, []) rfl
theorem g39_55 {v0 v1 v2 : Value} {c : Nat} : Y39 d Q 55 lv (v2 :: v1 :: v0 :: .ref c :: st) σ ↔ (zrcv 4 c ∧ zrm st) ∧ ∃ rv σ', yE d 41 [.ref c, v0, v1, v2] σ rv σ' ∧ Y39 d Q 58 lv (rv.toList ++ st) σ' := yX_at (.invokevirtual 63, 3, 41, 3, 78, 0, []) rfl
theorem g39_58 {x : Int32} : Y39 d Q 58 lv (.int x :: st) σ ↔ (x = 0 → Y39 d Q 84 lv st σ) ∧ (¬ x = 0 → Y39 d Q 61 lv st σ) := yX_at (.ifCond .eq 26, 3, 84, 0, 0, 0, []) rfl
theorem g39_61  : Y39 d Q 61 lv st σ ↔ zldR lv 0 (fun x => Y39 d Q 62 lv (.ref x :: st) σ) := yX_at (.aload_n 0, 1, 0, 0, 0, 0, []) rfl
theorem g39_62  : Y39 d Q 62 lv st σ ↔ Y39 d Q 63 lv (.int 4 :: st) σ := yX_at (.iconst 4, 1, 0, 0, 0, 0, []) rfl
theorem g39_63  : Y39 d Q 63 lv st σ ↔ zldR lv 0 (fun x => Y39 d Q 64 lv (.ref x :: st) σ) := yX_at (.aload_n 0, 1, 0, 0, 0, 0, []) rfl
theorem g39_64 {c : Nat} : Y39 d Q 64 lv (.ref c :: st) σ ↔ zK c = 4 ∧ Y39 d Q 67 lv (zfv σ c 6 :: st) σ := yX_at (.getfield 15, 3, 4, 6, 80, 0, []) rfl
theorem g39_67  : Y39 d Q 67 lv st σ ↔ Y39 d Q 68 lv (.int 1 :: st) σ := yX_at (.iconst 1, 1, 0, 0, 0, 0, []) rfl
theorem g39_68 {j : Int32} {c : Nat} : Y39 d Q 68 lv (.int j :: .ref c :: st) σ ↔ (zK c = 100 ∧ vp_in j (zLn c)) ∧ Y39 d Q 69 lv (.int (σ.1 c j.toNatClampNeg) :: st) σ := yX_at (.iaload, 1, 0, 0, 0, 0, []) rfl
theorem g39_69  : Y39 d Q 69 lv st σ ↔ Y39 d Q 71 lv (.int 9 :: st) σ := yX_at (.bipush 9, 2, 0, 0, 0, 0, []) rfl
theorem g39_71 {v0 v1 v2 : Value} {c : Nat} : Y39 d Q 71 lv (v2 :: v1 :: v0 :: .ref c :: st) σ ↔ (zrcv 4 c ∧ zrm st) ∧ ∃ rv σ', yE d 41 [.ref c, v0, v1, v2] σ rv σ' ∧ Y39 d Q 74 lv (rv.toList ++ st) σ' := yX_at (.invokevirtual 63, 3, 41, 3, 78, 0, []) rfl
theorem g39_74 {x : Int32} : Y39 d Q 74 lv (.int x :: st) σ ↔ (x = 0 → Y39 d Q 84 lv st σ) ∧ (¬ x = 0 → Y39 d Q 77 lv st σ) := yX_at (.ifCond .eq 10, 3, 84, 0, 0, 0, []) rfl
theorem g39_77  : Y39 d Q 77 lv st σ ↔ zldR lv 0 (fun x => Y39 d Q 78 lv (.ref x :: st) σ) := yX_at (.aload_n 0, 1, 0, 0, 0, 0, []) rfl
theorem g39_78 {c : Nat} : Y39 d Q 78 lv (.ref c :: st) σ ↔ (zrcv 4 c ∧ zrm st) ∧ ∃ rv σ', yE d 42 [.ref c] σ rv σ' ∧ Y39 d Q 81 lv (rv.toList ++ st) σ' := yX_at (.invokevirtual 67, 3, 42, 0, 79, 0, []) rfl
theorem g39_81 {x : Int32} : Y39 d Q 81 lv (.int x :: st) σ ↔ (¬ x = 0 → Y39 d Q 86 lv st σ) ∧ (x = 0 → Y39 d Q 84 lv st σ) := yX_at (.ifCond .ne 5, 3, 86, 0, 0, 0, []) rfl
theorem g39_84  : Y39 d Q 84 lv st σ ↔ Y39 d Q 85 lv (.int 0 :: st) σ := yX_at (.iconst 0, 1, 0, 0, 0, 0, []) rfl
theorem g39_85 {x : Int32} : Y39 d Q 85 lv [.int x] σ ↔ (x = 0 ∨ x = 1) ∧ Q (some (.int x)) σ := yX_at (.ireturn, 1, 1, 0, 0, 0, []) rfl
theorem g39_86  : Y39 d Q 86 lv st σ ↔ zldR lv 1 (fun x => Y39 d Q 87 lv (.ref x :: st) σ) := yX_at (.aload_n 1, 1, 0, 0, 0, 0, []) rfl
theorem g39_87  : Y39 d Q 87 lv st σ ↔ zldR lv 0 (fun x => Y39 d Q 88 lv (.ref x :: st) σ) := yX_at (.aload_n 0, 1, 0, 0, 0, 0, []) rfl
theorem g39_88 {c : Nat} : Y39 d Q 88 lv (.ref c :: st) σ ↔ zK c = 4 ∧ Y39 d Q 91 lv (zfv σ c 6 :: st) σ := yX_at (.getfield 15, 3, 4, 6, 80, 0, []) rfl
theorem g39_91 {v0 : Value} {c : Nat} : Y39 d Q 91 lv (v0 :: .ref c :: st) σ ↔ (zrcv 5 c ∧ zrm st) ∧ ∃ rv σ', yE d 53 [.ref c, v0] σ rv σ' ∧ Y39 d Q 94 lv (rv.toList ++ st) σ' := yX_at (.invokevirtual 78, 3, 53, 1, 83, 0, []) rfl
theorem g39_94  : Y39 d Q 94 lv st σ ↔ Y39 d Q 95 lv (.int 1 :: st) σ := yX_at (.iconst 1, 1, 0, 0, 0, 0, []) rfl
theorem g39_95 {x : Int32} : Y39 d Q 95 lv [.int x] σ ↔ (x = 0 ∨ x = 1) ∧ Q (some (.int x)) σ := yX_at (.ireturn, 1, 1, 0, 0, 0, []) rfl
end G39
def Y40 (d : Nat) (Q : Option Value → zSt → Prop) (pc : Nat) (lv : zLv) (st : List Value) (σ : zSt) : Prop := yX (yE d) ySn zt40 Q pc lv st σ
theorem C40 {d : Nat} {as : List Value} {σ : zSt} {P : Option Value → zSt → Prop} (hl : (lg_sl as).length ≤ 2) (h : Y40 d P 0 (lv_args 0 as) [] σ) : yC (d + 1) 40 as σ P := yC_of (by decide) hl h
section G40
variable {d : Nat} {Q : Option Value → zSt → Prop} {lv : zLv} {st : List Value} {σ : zSt}
theorem g40_0  : Y40 d Q 0 lv st σ ↔ zldR lv 1 (fun x => Y40 d Q 1 lv (.ref x :: st) σ) := yX_at (.aload_n 1, 1, 0, 0, 0, 0, []) rfl
theorem g40_1 {c : Nat} : Y40 d Q 1 lv (.ref c :: st) σ ↔ zK c = 5 ∧ Y40 d Q 4 lv (zfv σ c 10 :: st) σ := yX_at (.getfield 81, 3, 5, 10, 84, 0, []) rfl
theorem g40_4  : Y40 d Q 4 lv st σ ↔ Y40 d Q 6 lv (.int 8 :: st) σ := yX_at (.bipush 8, 2, 0, 0, 0, 0, []) rfl
theorem g40_6 {x y : Int32} : Y40 d Q 6 lv (.int y :: .int x :: st) σ ↔ (x < y → Y40 d Q 11 lv st σ) ∧ (¬ x < y → Y40 d Q 9 lv st σ) := yX_at (.if_icmp .lt 5, 3, 11, 0, 0, 0, []) rfl
theorem g40_9  : Y40 d Q 9 lv st σ ↔ Y40 d Q 10 lv (.int 0 :: st) σ := yX_at (.iconst 0, 1, 0, 0, 0, 0, []) rfl
theorem g40_10 {x : Int32} : Y40 d Q 10 lv [.int x] σ ↔ (x = 0 ∨ x = 1) ∧ Q (some (.int x)) σ := yX_at (.ireturn, 1, 1, 0, 0, 0, []) rfl
theorem g40_11  : Y40 d Q 11 lv st σ ↔ zldR lv 0 (fun x => Y40 d Q 12 lv (.ref x :: st) σ) := yX_at (.aload_n 0, 1, 0, 0, 0, 0, []) rfl
theorem g40_12  : Y40 d Q 12 lv st σ ↔ Y40 d Q 13 lv (.int 0 :: st) σ := yX_at (.iconst 0, 1, 0, 0, 0, 0, []) rfl
theorem g40_13  : Y40 d Q 13 lv st σ ↔ Y40 d Q 14 lv (.int 0 :: st) σ := yX_at (.iconst 0, 1, 0, 0, 0, 0, []) rfl
theorem g40_14  : Y40 d Q 14 lv st σ ↔ zldR lv 1 (fun x => Y40 d Q 15 lv (.ref x :: st) σ) := yX_at (.aload_n 1, 1, 0, 0, 0, 0, []) rfl
theorem g40_15 {c : Nat} : Y40 d Q 15 lv (.ref c :: st) σ ↔ zK c = 5 ∧ Y40 d Q 18 lv (zfv σ c 4 :: st) σ := yX_at (.getfield 75, 3, 5, 4, 82, 0, []) rfl
theorem g40_18  : Y40 d Q 18 lv st σ ↔ Y40 d Q 19 lv (.int 1 :: st) σ := yX_at (.iconst 1, 1, 0, 0, 0, 0, []) rfl
theorem g40_19 {x y : Int32} : Y40 d Q 19 lv (.int y :: .int x :: st) σ ↔ Y40 d Q 20 lv (.int (x - y) :: st) σ := yX_at (.isub, 1, 0, 0, 0, 0, []) rfl
theorem g40_20 {v0 v1 v2 : Value} {c : Nat} : Y40 d Q 20 lv (v2 :: v1 :: v0 :: .ref c :: st) σ ↔ (zrcv 4 c ∧ zrm st) ∧ ∃ rv σ', yE d 41 [.ref c, v0, v1, v2] σ rv σ' ∧ Y40 d Q 23 lv (rv.toList ++ st) σ' := yX_at (.invokevirtual 63, 3, 41, 3, 78, 0, []) rfl
theorem g40_23 {x : Int32} : Y40 d Q 23 lv (.int x :: st) σ ↔ (x = 0 → Y40 d Q 41 lv st σ) ∧ (¬ x = 0 → Y40 d Q 26 lv st σ) := yX_at (.ifCond .eq 18, 3, 41, 0, 0, 0, []) rfl
theorem g40_26  : Y40 d Q 26 lv st σ ↔ zldR lv 0 (fun x => Y40 d Q 27 lv (.ref x :: st) σ) := yX_at (.aload_n 0, 1, 0, 0, 0, 0, []) rfl
theorem g40_27  : Y40 d Q 27 lv st σ ↔ Y40 d Q 28 lv (.int 1 :: st) σ := yX_at (.iconst 1, 1, 0, 0, 0, 0, []) rfl
theorem g40_28  : Y40 d Q 28 lv st σ ↔ Y40 d Q 29 lv (.int 0 :: st) σ := yX_at (.iconst 0, 1, 0, 0, 0, 0, []) rfl
theorem g40_29  : Y40 d Q 29 lv st σ ↔ zldR lv 1 (fun x => Y40 d Q 30 lv (.ref x :: st) σ) := yX_at (.aload_n 1, 1, 0, 0, 0, 0, []) rfl
theorem g40_30 {c : Nat} : Y40 d Q 30 lv (.ref c :: st) σ ↔ zK c = 5 ∧ Y40 d Q 33 lv (zfv σ c 4 :: st) σ := yX_at (.getfield 75, 3, 5, 4, 82, 0, []) rfl
theorem g40_33  : Y40 d Q 33 lv st σ ↔ Y40 d Q 34 lv (.int 1 :: st) σ := yX_at (.iconst 1, 1, 0, 0, 0, 0, []) rfl
theorem g40_34 {x y : Int32} : Y40 d Q 34 lv (.int y :: .int x :: st) σ ↔ Y40 d Q 35 lv (.int (x - y) :: st) σ := yX_at (.isub, 1, 0, 0, 0, 0, []) rfl
theorem g40_35 {v0 v1 v2 : Value} {c : Nat} : Y40 d Q 35 lv (v2 :: v1 :: v0 :: .ref c :: st) σ ↔ (zrcv 4 c ∧ zrm st) ∧ ∃ rv σ', yE d 41 [.ref c, v0, v1, v2] σ rv σ' ∧ Y40 d Q 38 lv (rv.toList ++ st) σ' := yX_at (.invokevirtual 63, 3, 41, 3, 78, 0, []) rfl
theorem g40_38 {x : Int32} : Y40 d Q 38 lv (.int x :: st) σ ↔ (¬ x = 0 → Y40 d Q 43 lv st σ) ∧ (x = 0 → Y40 d Q 41 lv st σ) := yX_at (.ifCond .ne 5, 3, 43, 0, 0, 0, []) rfl
theorem g40_41  : Y40 d Q 41 lv st σ ↔ Y40 d Q 42 lv (.int 0 :: st) σ := yX_at (.iconst 0, 1, 0, 0, 0, 0, []) rfl
theorem g40_42 {x : Int32} : Y40 d Q 42 lv [.int x] σ ↔ (x = 0 ∨ x = 1) ∧ Q (some (.int x)) σ := yX_at (.ireturn, 1, 1, 0, 0, 0, []) rfl
theorem g40_43  : Y40 d Q 43 lv st σ ↔ zldR lv 0 (fun x => Y40 d Q 44 lv (.ref x :: st) σ) := yX_at (.aload_n 0, 1, 0, 0, 0, 0, []) rfl
theorem g40_44 {c : Nat} : Y40 d Q 44 lv (.ref c :: st) σ ↔ zK c = 4 ∧ Y40 d Q 47 lv (zfv σ c 6 :: st) σ := yX_at (.getfield 15, 3, 4, 6, 80, 0, []) rfl
theorem g40_47  : Y40 d Q 47 lv st σ ↔ Y40 d Q 48 lv (.int 0 :: st) σ := yX_at (.iconst 0, 1, 0, 0, 0, 0, []) rfl
theorem g40_48 {j : Int32} {c : Nat} : Y40 d Q 48 lv (.int j :: .ref c :: st) σ ↔ (zK c = 100 ∧ vp_in j (zLn c)) ∧ Y40 d Q 49 lv (.int (σ.1 c j.toNatClampNeg) :: st) σ := yX_at (.iaload, 1, 0, 0, 0, 0, []) rfl
theorem g40_49  : Y40 d Q 49 lv st σ ↔ zldR lv 0 (fun x => Y40 d Q 50 lv (.ref x :: st) σ) := yX_at (.aload_n 0, 1, 0, 0, 0, 0, []) rfl
theorem g40_50 {c : Nat} : Y40 d Q 50 lv (.ref c :: st) σ ↔ zK c = 4 ∧ Y40 d Q 53 lv (zfv σ c 6 :: st) σ := yX_at (.getfield 15, 3, 4, 6, 80, 0, []) rfl
theorem g40_53  : Y40 d Q 53 lv st σ ↔ Y40 d Q 54 lv (.int 1 :: st) σ := yX_at (.iconst 1, 1, 0, 0, 0, 0, []) rfl
theorem g40_54 {j : Int32} {c : Nat} : Y40 d Q 54 lv (.int j :: .ref c :: st) σ ↔ (zK c = 100 ∧ vp_in j (zLn c)) ∧ Y40 d Q 55 lv (.int (σ.1 c j.toNatClampNeg) :: st) σ := yX_at (.iaload, 1, 0, 0, 0, 0, []) rfl
theorem g40_55 {x y : Int32} : Y40 d Q 55 lv (.int y :: .int x :: st) σ ↔ (x = y → Y40 d Q 65 lv st σ) ∧ (¬ x = y → Y40 d Q 58 lv st σ) := yX_at (.if_icmp .eq 10, 3, 65, 0, 0, 0, []) rfl
theorem g40_58  : Y40 d Q 58 lv st σ ↔ zldR lv 0 (fun x => Y40 d Q 59 lv (.ref x :: st) σ) := yX_at (.aload_n 0, 1, 0, 0, 0, 0, []) rfl
theorem g40_59 {c : Nat} : Y40 d Q 59 lv (.ref c :: st) σ ↔ (zrcv 4 c ∧ zrm st) ∧ ∃ rv σ', yE d 42 [.ref c] σ rv σ' ∧ Y40 d Q 62 lv (rv.toList ++ st) σ' := yX_at (.invokevirtual 67, 3, 42, 0, 79, 0, []) rfl
theorem g40_62 {x : Int32} : Y40 d Q 62 lv (.int x :: st) σ ↔ (¬ x = 0 → Y40 d Q 67 lv st σ) ∧ (x = 0 → Y40 d Q 65 lv st σ) := yX_at (.ifCond .ne 5, 3, 67, 0, 0, 0, []) rfl
theorem g40_65  : Y40 d Q 65 lv st σ ↔ Y40 d Q 66 lv (.int 0 :: st) σ := yX_at (.iconst 0, 1, 0, 0, 0, 0, []) rfl
theorem g40_66 {x : Int32} : Y40 d Q 66 lv [.int x] σ ↔ (x = 0 ∨ x = 1) ∧ Q (some (.int x)) σ := yX_at (.ireturn, 1, 1, 0, 0, 0, []) rfl
theorem g40_67  : Y40 d Q 67 lv st σ ↔ zldR lv 1 (fun x => Y40 d Q 68 lv (.ref x :: st) σ) := yX_at (.aload_n 1, 1, 0, 0, 0, 0, []) rfl
theorem g40_68  : Y40 d Q 68 lv st σ ↔ zldR lv 0 (fun x => Y40 d Q 69 lv (.ref x :: st) σ) := yX_at (.aload_n 0, 1, 0, 0, 0, 0, []) rfl
theorem g40_69 {c : Nat} : Y40 d Q 69 lv (.ref c :: st) σ ↔ zK c = 4 ∧ Y40 d Q 72 lv (zfv σ c 6 :: st) σ := yX_at (.getfield 15, 3, 4, 6, 80, 0, []) rfl
theorem g40_72 {v0 : Value} {c : Nat} : Y40 d Q 72 lv (v0 :: .ref c :: st) σ ↔ (zrcv 5 c ∧ zrm st) ∧ ∃ rv σ', yE d 54 [.ref c, v0] σ rv σ' ∧ Y40 d Q 75 lv (rv.toList ++ st) σ' := yX_at (.invokevirtual 83, 3, 54, 1, 85, 0, []) rfl
theorem g40_75  : Y40 d Q 75 lv st σ ↔ Y40 d Q 76 lv (.int 1 :: st) σ := yX_at (.iconst 1, 1, 0, 0, 0, 0, []) rfl
theorem g40_76 {x : Int32} : Y40 d Q 76 lv [.int x] σ ↔ (x = 0 ∨ x = 1) ∧ Q (some (.int x)) σ := yX_at (.ireturn, 1, 1, 0, 0, 0, []) rfl
end G40
def Y41 (d : Nat) (Q : Option Value → zSt → Prop) (pc : Nat) (lv : zLv) (st : List Value) (σ : zSt) : Prop := yX (yE d) ySn zt41 Q pc lv st σ
theorem C41 {d : Nat} {as : List Value} {σ : zSt} {P : Option Value → zSt → Prop} (hl : (lg_sl as).length ≤ 4) (h : Y41 d P 0 (lv_args 0 as) [] σ) : yC (d + 1) 41 as σ P := yC_of (by decide) hl h
section G41
variable {d : Nat} {Q : Option Value → zSt → Prop} {lv : zLv} {st : List Value} {σ : zSt}
theorem g41_0  : Y41 d Q 0 lv st σ ↔ zldR lv 0 (fun x => Y41 d Q 1 lv (.ref x :: st) σ) := yX_at (.aload_n 0, 1, 0, 0, 0, 0, []) rfl
theorem g41_1 {c : Nat} : Y41 d Q 1 lv (.ref c :: st) σ ↔ (zrcv 4 c ∧ zrm st) ∧ ∃ rv σ', yE d 43 [.ref c] σ rv σ' ∧ Y41 d Q 4 lv (rv.toList ++ st) σ' := yX_at (.invokevirtual 31, 3, 43, 0, 70, 0, []) rfl
theorem g41_4  : Y41 d Q 4 lv st σ ↔ zldR lv 0 (fun x => Y41 d Q 5 lv (.ref x :: st) σ) := yX_at (.aload_n 0, 1, 0, 0, 0, 0, []) rfl
theorem g41_5 {c : Nat} : Y41 d Q 5 lv (.ref c :: st) σ ↔ zK c = 4 ∧ Y41 d Q 8 lv (zfv σ c 4 :: st) σ := yX_at (.getfield 34, 3, 4, 4, 71, 0, []) rfl
theorem g41_8  : Y41 d Q 8 lv st σ ↔ Y41 d Q 9 lv (.int 2 :: st) σ := yX_at (.iconst 2, 1, 0, 0, 0, 0, []) rfl
theorem g41_9 {x y : Int32} : Y41 d Q 9 lv (.int y :: .int x :: st) σ ↔ (¬ x = y → Y41 d Q 28 lv st σ) ∧ (x = y → Y41 d Q 12 lv st σ) := yX_at (.if_icmp .ne 19, 3, 28, 0, 0, 0, []) rfl
theorem g41_12  : Y41 d Q 12 lv st σ ↔ zldR lv 0 (fun x => Y41 d Q 13 lv (.ref x :: st) σ) := yX_at (.aload_n 0, 1, 0, 0, 0, 0, []) rfl
theorem g41_13 {c : Nat} : Y41 d Q 13 lv (.ref c :: st) σ ↔ zK c = 4 ∧ Y41 d Q 16 lv (zfv σ c 5 :: st) σ := yX_at (.getfield 86, 3, 4, 5, 86, 0, []) rfl
theorem g41_16  : Y41 d Q 16 lv st σ ↔ zldI lv 2 (fun x => Y41 d Q 17 lv (.int x :: st) σ) := yX_at (.iload_n 2, 1, 0, 0, 0, 0, []) rfl
theorem g41_17 {x y : Int32} : Y41 d Q 17 lv (.int y :: .int x :: st) σ ↔ (x < y → Y41 d Q 28 lv st σ) ∧ (¬ x < y → Y41 d Q 20 lv st σ) := yX_at (.if_icmp .lt 11, 3, 28, 0, 0, 0, []) rfl
theorem g41_20  : Y41 d Q 20 lv st σ ↔ zldR lv 0 (fun x => Y41 d Q 21 lv (.ref x :: st) σ) := yX_at (.aload_n 0, 1, 0, 0, 0, 0, []) rfl
theorem g41_21 {c : Nat} : Y41 d Q 21 lv (.ref c :: st) σ ↔ zK c = 4 ∧ Y41 d Q 24 lv (zfv σ c 5 :: st) σ := yX_at (.getfield 86, 3, 4, 5, 86, 0, []) rfl
theorem g41_24  : Y41 d Q 24 lv st σ ↔ zldI lv 3 (fun x => Y41 d Q 25 lv (.int x :: st) σ) := yX_at (.iload_n 3, 1, 0, 0, 0, 0, []) rfl
theorem g41_25 {x y : Int32} : Y41 d Q 25 lv (.int y :: .int x :: st) σ ↔ (x ≤ y → Y41 d Q 30 lv st σ) ∧ (¬ x ≤ y → Y41 d Q 28 lv st σ) := yX_at (.if_icmp .le 5, 3, 30, 0, 0, 0, []) rfl
theorem g41_28  : Y41 d Q 28 lv st σ ↔ Y41 d Q 29 lv (.int 0 :: st) σ := yX_at (.iconst 0, 1, 0, 0, 0, 0, []) rfl
theorem g41_29 {x : Int32} : Y41 d Q 29 lv [.int x] σ ↔ (x = 0 ∨ x = 1) ∧ Q (some (.int x)) σ := yX_at (.ireturn, 1, 1, 0, 0, 0, []) rfl
theorem g41_30  : Y41 d Q 30 lv st σ ↔ zldR lv 0 (fun x => Y41 d Q 31 lv (.ref x :: st) σ) := yX_at (.aload_n 0, 1, 0, 0, 0, 0, []) rfl
theorem g41_31 {c : Nat} : Y41 d Q 31 lv (.ref c :: st) σ ↔ zK c = 4 ∧ Y41 d Q 34 lv (zfv σ c 6 :: st) σ := yX_at (.getfield 15, 3, 4, 6, 80, 0, []) rfl
theorem g41_34  : Y41 d Q 34 lv st σ ↔ zldI lv 1 (fun x => Y41 d Q 35 lv (.int x :: st) σ) := yX_at (.iload_n 1, 1, 0, 0, 0, 0, []) rfl
theorem g41_35  : Y41 d Q 35 lv st σ ↔ zldR lv 0 (fun x => Y41 d Q 36 lv (.ref x :: st) σ) := yX_at (.aload_n 0, 1, 0, 0, 0, 0, []) rfl
theorem g41_36 {c : Nat} : Y41 d Q 36 lv (.ref c :: st) σ ↔ zK c = 4 ∧ Y41 d Q 39 lv (zfv σ c 5 :: st) σ := yX_at (.getfield 86, 3, 4, 5, 86, 0, []) rfl
theorem g41_39 {x j : Int32} {c : Nat} : Y41 d Q 39 lv (.int x :: .int j :: .ref c :: st) σ ↔ (zK c = 100 ∧ vp_in j (zLn c)) ∧ Y41 d Q 40 lv st (zwI σ c j.toNatClampNeg x) := yX_at (.iastore, 1, 0, 0, 0, 0, []) rfl
theorem g41_40  : Y41 d Q 40 lv st σ ↔ Y41 d Q 41 lv (.int 1 :: st) σ := yX_at (.iconst 1, 1, 0, 0, 0, 0, []) rfl
theorem g41_41 {x : Int32} : Y41 d Q 41 lv [.int x] σ ↔ (x = 0 ∨ x = 1) ∧ Q (some (.int x)) σ := yX_at (.ireturn, 1, 1, 0, 0, 0, []) rfl
end G41
def Y42 (d : Nat) (Q : Option Value → zSt → Prop) (pc : Nat) (lv : zLv) (st : List Value) (σ : zSt) : Prop := yX (yE d) ySn zt42 Q pc lv st σ
theorem C42 {d : Nat} {as : List Value} {σ : zSt} {P : Option Value → zSt → Prop} (hl : (lg_sl as).length ≤ 1) (h : Y42 d P 0 (lv_args 0 as) [] σ) : yC (d + 1) 42 as σ P := yC_of (by decide) hl h
section G42
variable {d : Nat} {Q : Option Value → zSt → Prop} {lv : zLv} {st : List Value} {σ : zSt}
theorem g42_0  : Y42 d Q 0 lv st σ ↔ zldR lv 0 (fun x => Y42 d Q 1 lv (.ref x :: st) σ) := yX_at (.aload_n 0, 1, 0, 0, 0, 0, []) rfl
theorem g42_1 {c : Nat} : Y42 d Q 1 lv (.ref c :: st) σ ↔ (zrcv 4 c ∧ zrm st) ∧ ∃ rv σ', yE d 43 [.ref c] σ rv σ' ∧ Y42 d Q 4 lv (rv.toList ++ st) σ' := yX_at (.invokevirtual 31, 3, 43, 0, 70, 0, []) rfl
theorem g42_4  : Y42 d Q 4 lv st σ ↔ zldR lv 0 (fun x => Y42 d Q 5 lv (.ref x :: st) σ) := yX_at (.aload_n 0, 1, 0, 0, 0, 0, []) rfl
theorem g42_5 {c : Nat} : Y42 d Q 5 lv (.ref c :: st) σ ↔ zK c = 4 ∧ Y42 d Q 8 lv (zfv σ c 4 :: st) σ := yX_at (.getfield 34, 3, 4, 4, 71, 0, []) rfl
theorem g42_8  : Y42 d Q 8 lv st σ ↔ Y42 d Q 9 lv (.int 1 :: st) σ := yX_at (.iconst 1, 1, 0, 0, 0, 0, []) rfl
theorem g42_9 {x y : Int32} : Y42 d Q 9 lv (.int y :: .int x :: st) σ ↔ (¬ x = y → Y42 d Q 16 lv st σ) ∧ (x = y → Y42 d Q 12 lv st σ) := yX_at (.if_icmp .ne 7, 3, 16, 0, 0, 0, []) rfl
theorem g42_12  : Y42 d Q 12 lv st σ ↔ Y42 d Q 13 lv (.int 1 :: st) σ := yX_at (.iconst 1, 1, 0, 0, 0, 0, []) rfl
theorem g42_13  : Y42 d Q 13 lv st σ ↔ Y42 d Q 17 lv st σ := yX_at (.goto 4, 3, 17, 0, 0, 0, []) rfl
theorem g42_16  : Y42 d Q 16 lv st σ ↔ Y42 d Q 17 lv (.int 0 :: st) σ := yX_at (.iconst 0, 1, 0, 0, 0, 0, []) rfl
theorem g42_17 {x : Int32} : Y42 d Q 17 lv [.int x] σ ↔ (x = 0 ∨ x = 1) ∧ Q (some (.int x)) σ := yX_at (.ireturn, 1, 1, 0, 0, 0, []) rfl
end G42
def Y43 (d : Nat) (Q : Option Value → zSt → Prop) (pc : Nat) (lv : zLv) (st : List Value) (σ : zSt) : Prop := yX (yE d) ySn zt43 Q pc lv st σ
theorem C43 {d : Nat} {as : List Value} {σ : zSt} {P : Option Value → zSt → Prop} (hl : (lg_sl as).length ≤ 1) (h : Y43 d P 0 (lv_args 0 as) [] σ) : yC (d + 1) 43 as σ P := yC_of (by decide) hl h
section G43
variable {d : Nat} {Q : Option Value → zSt → Prop} {lv : zLv} {st : List Value} {σ : zSt}
theorem g43_0  : Y43 d Q 0 lv st σ ↔ zldR lv 0 (fun x => Y43 d Q 1 lv (.ref x :: st) σ) := yX_at (.aload_n 0, 1, 0, 0, 0, 0, []) rfl
theorem g43_1 {c : Nat} : Y43 d Q 1 lv (.ref c :: st) σ ↔ zK c = 4 ∧ Y43 d Q 4 lv (zfv σ c 2 :: st) σ := yX_at (.getfield 23, 3, 4, 2, 68, 0, []) rfl
theorem g43_4  : Y43 d Q 4 lv st σ ↔ zldR lv 0 (fun x => Y43 d Q 5 lv (.ref x :: st) σ) := yX_at (.aload_n 0, 1, 0, 0, 0, 0, []) rfl
theorem g43_5 {c : Nat} : Y43 d Q 5 lv (.ref c :: st) σ ↔ zK c = 4 ∧ Y43 d Q 8 lv (zfv σ c 1 :: st) σ := yX_at (.getfield 19, 3, 4, 1, 67, 0, []) rfl
theorem g43_8 {x y : Int32} : Y43 d Q 8 lv (.int y :: .int x :: st) σ ↔ (y ≤ x → Y43 d Q 38 lv st σ) ∧ (¬ y ≤ x → Y43 d Q 11 lv st σ) := yX_at (.if_icmp .ge 30, 3, 38, 0, 0, 0, []) rfl
theorem g43_11  : Y43 d Q 11 lv st σ ↔ zldR lv 0 (fun x => Y43 d Q 12 lv (.ref x :: st) σ) := yX_at (.aload_n 0, 1, 0, 0, 0, 0, []) rfl
theorem g43_12 {c : Nat} : Y43 d Q 12 lv (.ref c :: st) σ ↔ zK c = 4 ∧ Y43 d Q 15 lv (zfv σ c 0 :: st) σ := yX_at (.getfield 9, 3, 4, 0, 66, 0, []) rfl
theorem g43_15  : Y43 d Q 15 lv st σ ↔ zldR lv 0 (fun x => Y43 d Q 16 lv (.ref x :: st) σ) := yX_at (.aload_n 0, 1, 0, 0, 0, 0, []) rfl
theorem g43_16 {c : Nat} : Y43 d Q 16 lv (.ref c :: st) σ ↔ zK c = 4 ∧ Y43 d Q 19 lv (zfv σ c 2 :: st) σ := yX_at (.getfield 23, 3, 4, 2, 68, 0, []) rfl
theorem g43_19 {j : Int32} {c : Nat} : Y43 d Q 19 lv (.int j :: .ref c :: st) σ ↔ ((zK c = 101 ∨ zK c = 102) ∧ vp_in j (zLn c)) ∧ Y43 d Q 20 lv (.int (σ.1 c j.toNatClampNeg) :: st) σ := yX_at (.baload, 1, 0, 0, 0, 0, []) rfl
theorem g43_20  : Y43 d Q 20 lv st σ ↔ Y43 d Q 22 lv (.int 32 :: st) σ := yX_at (.bipush 32, 2, 0, 0, 0, 0, []) rfl
theorem g43_22 {x y : Int32} : Y43 d Q 22 lv (.int y :: .int x :: st) σ ↔ (¬ x = y → Y43 d Q 38 lv st σ) ∧ (x = y → Y43 d Q 25 lv st σ) := yX_at (.if_icmp .ne 16, 3, 38, 0, 0, 0, []) rfl
theorem g43_25  : Y43 d Q 25 lv st σ ↔ zldR lv 0 (fun x => Y43 d Q 26 lv (.ref x :: st) σ) := yX_at (.aload_n 0, 1, 0, 0, 0, 0, []) rfl
theorem g43_26  : Y43 d Q 26 lv st σ ↔ zdup st (fun r => Y43 d Q 27 lv r σ) := yX_at (.dup, 1, 0, 0, 0, 0, []) rfl
theorem g43_27 {c : Nat} : Y43 d Q 27 lv (.ref c :: st) σ ↔ zK c = 4 ∧ Y43 d Q 30 lv (zfv σ c 2 :: st) σ := yX_at (.getfield 23, 3, 4, 2, 68, 0, []) rfl
theorem g43_30  : Y43 d Q 30 lv st σ ↔ Y43 d Q 31 lv (.int 1 :: st) σ := yX_at (.iconst 1, 1, 0, 0, 0, 0, []) rfl
theorem g43_31 {x y : Int32} : Y43 d Q 31 lv (.int y :: .int x :: st) σ ↔ Y43 d Q 32 lv (.int (x + y) :: st) σ := yX_at (.iadd, 1, 0, 0, 0, 0, []) rfl
theorem g43_32 {x : Int32} {c : Nat} : Y43 d Q 32 lv (.int x :: .ref c :: st) σ ↔ zK c = 4 ∧ Y43 d Q 35 lv st (zwI σ c 2 x) := yX_at (.putfield 23, 3, 4, 2, 68, 0, []) rfl
theorem g43_35  : Y43 d Q 35 lv st σ ↔ Y43 d Q 0 lv st σ := yX_at (.goto (-35), 3, 0, 0, 0, 0, []) rfl
theorem g43_38  : Y43 d Q 38 lv st σ ↔ zldR lv 0 (fun x => Y43 d Q 39 lv (.ref x :: st) σ) := yX_at (.aload_n 0, 1, 0, 0, 0, 0, []) rfl
theorem g43_39  : Y43 d Q 39 lv st σ ↔ zldR lv 0 (fun x => Y43 d Q 40 lv (.ref x :: st) σ) := yX_at (.aload_n 0, 1, 0, 0, 0, 0, []) rfl
theorem g43_40 {c : Nat} : Y43 d Q 40 lv (.ref c :: st) σ ↔ zK c = 4 ∧ Y43 d Q 43 lv (zfv σ c 2 :: st) σ := yX_at (.getfield 23, 3, 4, 2, 68, 0, []) rfl
theorem g43_43 {x : Int32} {c : Nat} : Y43 d Q 43 lv (.int x :: .ref c :: st) σ ↔ zK c = 4 ∧ Y43 d Q 46 lv st (zwI σ c 3 x) := yX_at (.putfield 57, 3, 4, 3, 76, 0, []) rfl
theorem g43_46  : Y43 d Q 46 lv st σ ↔ zldR lv 0 (fun x => Y43 d Q 47 lv (.ref x :: st) σ) := yX_at (.aload_n 0, 1, 0, 0, 0, 0, []) rfl
theorem g43_47 {c : Nat} : Y43 d Q 47 lv (.ref c :: st) σ ↔ zK c = 4 ∧ Y43 d Q 50 lv (zfv σ c 2 :: st) σ := yX_at (.getfield 23, 3, 4, 2, 68, 0, []) rfl
theorem g43_50  : Y43 d Q 50 lv st σ ↔ zldR lv 0 (fun x => Y43 d Q 51 lv (.ref x :: st) σ) := yX_at (.aload_n 0, 1, 0, 0, 0, 0, []) rfl
theorem g43_51 {c : Nat} : Y43 d Q 51 lv (.ref c :: st) σ ↔ zK c = 4 ∧ Y43 d Q 54 lv (zfv σ c 1 :: st) σ := yX_at (.getfield 19, 3, 4, 1, 67, 0, []) rfl
theorem g43_54 {x y : Int32} : Y43 d Q 54 lv (.int y :: .int x :: st) σ ↔ (x < y → Y43 d Q 65 lv st σ) ∧ (¬ x < y → Y43 d Q 57 lv st σ) := yX_at (.if_icmp .lt 11, 3, 65, 0, 0, 0, []) rfl
theorem g43_57  : Y43 d Q 57 lv st σ ↔ zldR lv 0 (fun x => Y43 d Q 58 lv (.ref x :: st) σ) := yX_at (.aload_n 0, 1, 0, 0, 0, 0, []) rfl
theorem g43_58  : Y43 d Q 58 lv st σ ↔ Y43 d Q 59 lv (.int 0 :: st) σ := yX_at (.iconst 0, 1, 0, 0, 0, 0, []) rfl
theorem g43_59 {x : Int32} {c : Nat} : Y43 d Q 59 lv (.int x :: .ref c :: st) σ ↔ zK c = 4 ∧ Y43 d Q 62 lv st (zwI σ c 4 x) := yX_at (.putfield 34, 3, 4, 4, 71, 0, []) rfl
theorem g43_62  : Y43 d Q 62 lv st σ ↔ Y43 d Q 123 lv st σ := yX_at (.goto 61, 3, 123, 0, 0, 0, []) rfl
theorem g43_65  : Y43 d Q 65 lv st σ ↔ zldR lv 0 (fun x => Y43 d Q 66 lv (.ref x :: st) σ) := yX_at (.aload_n 0, 1, 0, 0, 0, 0, []) rfl
theorem g43_66 {c : Nat} : Y43 d Q 66 lv (.ref c :: st) σ ↔ zK c = 4 ∧ Y43 d Q 69 lv (zfv σ c 0 :: st) σ := yX_at (.getfield 9, 3, 4, 0, 66, 0, []) rfl
theorem g43_69  : Y43 d Q 69 lv st σ ↔ zldR lv 0 (fun x => Y43 d Q 70 lv (.ref x :: st) σ) := yX_at (.aload_n 0, 1, 0, 0, 0, 0, []) rfl
theorem g43_70 {c : Nat} : Y43 d Q 70 lv (.ref c :: st) σ ↔ zK c = 4 ∧ Y43 d Q 73 lv (zfv σ c 2 :: st) σ := yX_at (.getfield 23, 3, 4, 2, 68, 0, []) rfl
theorem g43_73 {j : Int32} {c : Nat} : Y43 d Q 73 lv (.int j :: .ref c :: st) σ ↔ ((zK c = 101 ∨ zK c = 102) ∧ vp_in j (zLn c)) ∧ Y43 d Q 74 lv (.int (σ.1 c j.toNatClampNeg) :: st) σ := yX_at (.baload, 1, 0, 0, 0, 0, []) rfl
theorem g43_74  : Y43 d Q 74 lv st σ ↔ Y43 d Q 76 lv (.int 59 :: st) σ := yX_at (.bipush 59, 2, 0, 0, 0, 0, []) rfl
theorem g43_76 {x y : Int32} : Y43 d Q 76 lv (.int y :: .int x :: st) σ ↔ (¬ x = y → Y43 d Q 97 lv st σ) ∧ (x = y → Y43 d Q 79 lv st σ) := yX_at (.if_icmp .ne 21, 3, 97, 0, 0, 0, []) rfl
theorem g43_79  : Y43 d Q 79 lv st σ ↔ zldR lv 0 (fun x => Y43 d Q 80 lv (.ref x :: st) σ) := yX_at (.aload_n 0, 1, 0, 0, 0, 0, []) rfl
theorem g43_80  : Y43 d Q 80 lv st σ ↔ zdup st (fun r => Y43 d Q 81 lv r σ) := yX_at (.dup, 1, 0, 0, 0, 0, []) rfl
theorem g43_81 {c : Nat} : Y43 d Q 81 lv (.ref c :: st) σ ↔ zK c = 4 ∧ Y43 d Q 84 lv (zfv σ c 2 :: st) σ := yX_at (.getfield 23, 3, 4, 2, 68, 0, []) rfl
theorem g43_84  : Y43 d Q 84 lv st σ ↔ Y43 d Q 85 lv (.int 1 :: st) σ := yX_at (.iconst 1, 1, 0, 0, 0, 0, []) rfl
theorem g43_85 {x y : Int32} : Y43 d Q 85 lv (.int y :: .int x :: st) σ ↔ Y43 d Q 86 lv (.int (x + y) :: st) σ := yX_at (.iadd, 1, 0, 0, 0, 0, []) rfl
theorem g43_86 {x : Int32} {c : Nat} : Y43 d Q 86 lv (.int x :: .ref c :: st) σ ↔ zK c = 4 ∧ Y43 d Q 89 lv st (zwI σ c 2 x) := yX_at (.putfield 23, 3, 4, 2, 68, 0, []) rfl
theorem g43_89  : Y43 d Q 89 lv st σ ↔ zldR lv 0 (fun x => Y43 d Q 90 lv (.ref x :: st) σ) := yX_at (.aload_n 0, 1, 0, 0, 0, 0, []) rfl
theorem g43_90  : Y43 d Q 90 lv st σ ↔ Y43 d Q 91 lv (.int 1 :: st) σ := yX_at (.iconst 1, 1, 0, 0, 0, 0, []) rfl
theorem g43_91 {x : Int32} {c : Nat} : Y43 d Q 91 lv (.int x :: .ref c :: st) σ ↔ zK c = 4 ∧ Y43 d Q 94 lv st (zwI σ c 4 x) := yX_at (.putfield 34, 3, 4, 4, 71, 0, []) rfl
theorem g43_94  : Y43 d Q 94 lv st σ ↔ Y43 d Q 123 lv st σ := yX_at (.goto 29, 3, 123, 0, 0, 0, []) rfl
theorem g43_97  : Y43 d Q 97 lv st σ ↔ zldR lv 0 (fun x => Y43 d Q 98 lv (.ref x :: st) σ) := yX_at (.aload_n 0, 1, 0, 0, 0, 0, []) rfl
theorem g43_98 {c : Nat} : Y43 d Q 98 lv (.ref c :: st) σ ↔ zK c = 4 ∧ Y43 d Q 101 lv (zfv σ c 0 :: st) σ := yX_at (.getfield 9, 3, 4, 0, 66, 0, []) rfl
theorem g43_101  : Y43 d Q 101 lv st σ ↔ zldR lv 0 (fun x => Y43 d Q 102 lv (.ref x :: st) σ) := yX_at (.aload_n 0, 1, 0, 0, 0, 0, []) rfl
theorem g43_102 {c : Nat} : Y43 d Q 102 lv (.ref c :: st) σ ↔ zK c = 4 ∧ Y43 d Q 105 lv (zfv σ c 2 :: st) σ := yX_at (.getfield 23, 3, 4, 2, 68, 0, []) rfl
theorem g43_105 {j : Int32} {c : Nat} : Y43 d Q 105 lv (.int j :: .ref c :: st) σ ↔ ((zK c = 101 ∨ zK c = 102) ∧ vp_in j (zLn c)) ∧ Y43 d Q 106 lv (.int (σ.1 c j.toNatClampNeg) :: st) σ := yX_at (.baload, 1, 0, 0, 0, 0, []) rfl
theorem g43_106 {v0 : Value} : Y43 d Q 106 lv (v0 :: st) σ ↔ zrm st ∧ ∃ rv σ', yE d 47 [v0] σ rv σ' ∧ Y43 d Q 109 lv (rv.toList ++ st) σ' := yX_at (.invokestatic 89, 3, 47, 1, 87, 0, []) rfl
theorem g43_109 {x : Int32} : Y43 d Q 109 lv (.int x :: st) σ ↔ (x = 0 → Y43 d Q 119 lv st σ) ∧ (¬ x = 0 → Y43 d Q 112 lv st σ) := yX_at (.ifCond .eq 10, 3, 119, 0, 0, 0, []) rfl
theorem g43_112  : Y43 d Q 112 lv st σ ↔ zldR lv 0 (fun x => Y43 d Q 113 lv (.ref x :: st) σ) := yX_at (.aload_n 0, 1, 0, 0, 0, 0, []) rfl
theorem g43_113 {c : Nat} : Y43 d Q 113 lv (.ref c :: st) σ ↔ (zrcv 4 c ∧ zrm st) ∧ ∃ rv σ', yE d 44 [.ref c] σ rv σ' ∧ Y43 d Q 116 lv (rv.toList ++ st) σ' := yX_at (.invokevirtual 93, 3, 44, 0, 88, 0, []) rfl
theorem g43_116  : Y43 d Q 116 lv st σ ↔ Y43 d Q 123 lv st σ := yX_at (.goto 7, 3, 123, 0, 0, 0, []) rfl
theorem g43_119  : Y43 d Q 119 lv st σ ↔ zldR lv 0 (fun x => Y43 d Q 120 lv (.ref x :: st) σ) := yX_at (.aload_n 0, 1, 0, 0, 0, 0, []) rfl
theorem g43_120 {c : Nat} : Y43 d Q 120 lv (.ref c :: st) σ ↔ (zrcv 4 c ∧ zrm st) ∧ ∃ rv σ', yE d 45 [.ref c] σ rv σ' ∧ Y43 d Q 123 lv (rv.toList ++ st) σ' := yX_at (.invokevirtual 96, 3, 45, 0, 89, 0, []) rfl
theorem g43_123  : Y43 d Q 123 lv [] σ ↔ Q none σ := yX_at (.return_, 1, 0, 0, 0, 0, []) rfl
end G43
def Y44 (d : Nat) (Q : Option Value → zSt → Prop) (pc : Nat) (lv : zLv) (st : List Value) (σ : zSt) : Prop := yX (yE d) ySn zt44 Q pc lv st σ
theorem C44 {d : Nat} {as : List Value} {σ : zSt} {P : Option Value → zSt → Prop} (hl : (lg_sl as).length ≤ 2) (h : Y44 d P 0 (lv_args 0 as) [] σ) : yC (d + 1) 44 as σ P := yC_of (by decide) hl h
section G44
variable {d : Nat} {Q : Option Value → zSt → Prop} {lv : zLv} {st : List Value} {σ : zSt}
theorem g44_0  : Y44 d Q 0 lv st σ ↔ zldR lv 0 (fun x => Y44 d Q 1 lv (.ref x :: st) σ) := yX_at (.aload_n 0, 1, 0, 0, 0, 0, []) rfl
theorem g44_1  : Y44 d Q 1 lv st σ ↔ Y44 d Q 2 lv (.int 0 :: st) σ := yX_at (.iconst 0, 1, 0, 0, 0, 0, []) rfl
theorem g44_2 {x : Int32} {c : Nat} : Y44 d Q 2 lv (.int x :: .ref c :: st) σ ↔ zK c = 4 ∧ Y44 d Q 5 lv st (zwI σ c 5 x) := yX_at (.putfield 86, 3, 4, 5, 86, 0, []) rfl
theorem g44_5  : Y44 d Q 5 lv st σ ↔ zldR lv 0 (fun x => Y44 d Q 6 lv (.ref x :: st) σ) := yX_at (.aload_n 0, 1, 0, 0, 0, 0, []) rfl
theorem g44_6 {c : Nat} : Y44 d Q 6 lv (.ref c :: st) σ ↔ zK c = 4 ∧ Y44 d Q 9 lv (zfv σ c 2 :: st) σ := yX_at (.getfield 23, 3, 4, 2, 68, 0, []) rfl
theorem g44_9  : Y44 d Q 9 lv st σ ↔ zldR lv 0 (fun x => Y44 d Q 10 lv (.ref x :: st) σ) := yX_at (.aload_n 0, 1, 0, 0, 0, 0, []) rfl
theorem g44_10 {c : Nat} : Y44 d Q 10 lv (.ref c :: st) σ ↔ zK c = 4 ∧ Y44 d Q 13 lv (zfv σ c 1 :: st) σ := yX_at (.getfield 19, 3, 4, 1, 67, 0, []) rfl
theorem g44_13 {x y : Int32} : Y44 d Q 13 lv (.int y :: .int x :: st) σ ↔ (y ≤ x → Y44 d Q 73 lv st σ) ∧ (¬ y ≤ x → Y44 d Q 16 lv st σ) := yX_at (.if_icmp .ge 60, 3, 73, 0, 0, 0, []) rfl
theorem g44_16  : Y44 d Q 16 lv st σ ↔ zldR lv 0 (fun x => Y44 d Q 17 lv (.ref x :: st) σ) := yX_at (.aload_n 0, 1, 0, 0, 0, 0, []) rfl
theorem g44_17 {c : Nat} : Y44 d Q 17 lv (.ref c :: st) σ ↔ zK c = 4 ∧ Y44 d Q 20 lv (zfv σ c 0 :: st) σ := yX_at (.getfield 9, 3, 4, 0, 66, 0, []) rfl
theorem g44_20  : Y44 d Q 20 lv st σ ↔ zldR lv 0 (fun x => Y44 d Q 21 lv (.ref x :: st) σ) := yX_at (.aload_n 0, 1, 0, 0, 0, 0, []) rfl
theorem g44_21 {c : Nat} : Y44 d Q 21 lv (.ref c :: st) σ ↔ zK c = 4 ∧ Y44 d Q 24 lv (zfv σ c 2 :: st) σ := yX_at (.getfield 23, 3, 4, 2, 68, 0, []) rfl
theorem g44_24 {j : Int32} {c : Nat} : Y44 d Q 24 lv (.int j :: .ref c :: st) σ ↔ ((zK c = 101 ∨ zK c = 102) ∧ vp_in j (zLn c)) ∧ Y44 d Q 25 lv (.int (σ.1 c j.toNatClampNeg) :: st) σ := yX_at (.baload, 1, 0, 0, 0, 0, []) rfl
theorem g44_25 {v0 : Value} : Y44 d Q 25 lv (v0 :: st) σ ↔ zrm st ∧ ∃ rv σ', yE d 47 [v0] σ rv σ' ∧ Y44 d Q 28 lv (rv.toList ++ st) σ' := yX_at (.invokestatic 89, 3, 47, 1, 87, 0, []) rfl
theorem g44_28 {x : Int32} : Y44 d Q 28 lv (.int x :: st) σ ↔ (x = 0 → Y44 d Q 73 lv st σ) ∧ (¬ x = 0 → Y44 d Q 31 lv st σ) := yX_at (.ifCond .eq 45, 3, 73, 0, 0, 0, []) rfl
theorem g44_31  : Y44 d Q 31 lv st σ ↔ zldR lv 0 (fun x => Y44 d Q 32 lv (.ref x :: st) σ) := yX_at (.aload_n 0, 1, 0, 0, 0, 0, []) rfl
theorem g44_32  : Y44 d Q 32 lv st σ ↔ zldR lv 0 (fun x => Y44 d Q 33 lv (.ref x :: st) σ) := yX_at (.aload_n 0, 1, 0, 0, 0, 0, []) rfl
theorem g44_33 {c : Nat} : Y44 d Q 33 lv (.ref c :: st) σ ↔ zK c = 4 ∧ Y44 d Q 36 lv (zfv σ c 5 :: st) σ := yX_at (.getfield 86, 3, 4, 5, 86, 0, []) rfl
theorem g44_36  : Y44 d Q 36 lv st σ ↔ Y44 d Q 38 lv (.int 10 :: st) σ := yX_at (.bipush 10, 2, 0, 0, 0, 0, []) rfl
theorem g44_38 {x y : Int32} : Y44 d Q 38 lv (.int y :: .int x :: st) σ ↔ Y44 d Q 39 lv (.int (x * y) :: st) σ := yX_at (.imul, 1, 0, 0, 0, 0, []) rfl
theorem g44_39  : Y44 d Q 39 lv st σ ↔ zldR lv 0 (fun x => Y44 d Q 40 lv (.ref x :: st) σ) := yX_at (.aload_n 0, 1, 0, 0, 0, 0, []) rfl
theorem g44_40 {c : Nat} : Y44 d Q 40 lv (.ref c :: st) σ ↔ zK c = 4 ∧ Y44 d Q 43 lv (zfv σ c 0 :: st) σ := yX_at (.getfield 9, 3, 4, 0, 66, 0, []) rfl
theorem g44_43  : Y44 d Q 43 lv st σ ↔ zldR lv 0 (fun x => Y44 d Q 44 lv (.ref x :: st) σ) := yX_at (.aload_n 0, 1, 0, 0, 0, 0, []) rfl
theorem g44_44 {c : Nat} : Y44 d Q 44 lv (.ref c :: st) σ ↔ zK c = 4 ∧ Y44 d Q 47 lv (zfv σ c 2 :: st) σ := yX_at (.getfield 23, 3, 4, 2, 68, 0, []) rfl
theorem g44_47 {j : Int32} {c : Nat} : Y44 d Q 47 lv (.int j :: .ref c :: st) σ ↔ ((zK c = 101 ∨ zK c = 102) ∧ vp_in j (zLn c)) ∧ Y44 d Q 48 lv (.int (σ.1 c j.toNatClampNeg) :: st) σ := yX_at (.baload, 1, 0, 0, 0, 0, []) rfl
theorem g44_48 {x y : Int32} : Y44 d Q 48 lv (.int y :: .int x :: st) σ ↔ Y44 d Q 49 lv (.int (x + y) :: st) σ := yX_at (.iadd, 1, 0, 0, 0, 0, []) rfl
theorem g44_49  : Y44 d Q 49 lv st σ ↔ Y44 d Q 51 lv (.int 48 :: st) σ := yX_at (.bipush 48, 2, 0, 0, 0, 0, []) rfl
theorem g44_51 {x y : Int32} : Y44 d Q 51 lv (.int y :: .int x :: st) σ ↔ Y44 d Q 52 lv (.int (x - y) :: st) σ := yX_at (.isub, 1, 0, 0, 0, 0, []) rfl
theorem g44_52  : Y44 d Q 52 lv st σ ↔ Y44 d Q 54 lv (.int 100 :: st) σ := yX_at (.bipush 100, 2, 0, 0, 0, 0, []) rfl
theorem g44_54 {x y : Int32} : Y44 d Q 54 lv (.int y :: .int x :: st) σ ↔ zrm st ∧ Y44 d Q 57 lv (.int (if y < x then y else x) :: st) σ := yX_at (.invokestatic 99, 3, 901, 2, 90, 0, []) rfl
theorem g44_57 {x : Int32} {c : Nat} : Y44 d Q 57 lv (.int x :: .ref c :: st) σ ↔ zK c = 4 ∧ Y44 d Q 60 lv st (zwI σ c 5 x) := yX_at (.putfield 86, 3, 4, 5, 86, 0, []) rfl
theorem g44_60  : Y44 d Q 60 lv st σ ↔ zldR lv 0 (fun x => Y44 d Q 61 lv (.ref x :: st) σ) := yX_at (.aload_n 0, 1, 0, 0, 0, 0, []) rfl
theorem g44_61  : Y44 d Q 61 lv st σ ↔ zdup st (fun r => Y44 d Q 62 lv r σ) := yX_at (.dup, 1, 0, 0, 0, 0, []) rfl
theorem g44_62 {c : Nat} : Y44 d Q 62 lv (.ref c :: st) σ ↔ zK c = 4 ∧ Y44 d Q 65 lv (zfv σ c 2 :: st) σ := yX_at (.getfield 23, 3, 4, 2, 68, 0, []) rfl
theorem g44_65  : Y44 d Q 65 lv st σ ↔ Y44 d Q 66 lv (.int 1 :: st) σ := yX_at (.iconst 1, 1, 0, 0, 0, 0, []) rfl
theorem g44_66 {x y : Int32} : Y44 d Q 66 lv (.int y :: .int x :: st) σ ↔ Y44 d Q 67 lv (.int (x + y) :: st) σ := yX_at (.iadd, 1, 0, 0, 0, 0, []) rfl
theorem g44_67 {x : Int32} {c : Nat} : Y44 d Q 67 lv (.int x :: .ref c :: st) σ ↔ zK c = 4 ∧ Y44 d Q 70 lv st (zwI σ c 2 x) := yX_at (.putfield 23, 3, 4, 2, 68, 0, []) rfl
theorem g44_70  : Y44 d Q 70 lv st σ ↔ Y44 d Q 5 lv st σ := yX_at (.goto (-65), 3, 5, 0, 0, 0, []) rfl
theorem g44_73  : Y44 d Q 73 lv st σ ↔ zldR lv 0 (fun x => Y44 d Q 74 lv (.ref x :: st) σ) := yX_at (.aload_n 0, 1, 0, 0, 0, 0, []) rfl
theorem g44_74 {c : Nat} : Y44 d Q 74 lv (.ref c :: st) σ ↔ zK c = 4 ∧ Y44 d Q 77 lv (zfv σ c 0 :: st) σ := yX_at (.getfield 9, 3, 4, 0, 66, 0, []) rfl
theorem g44_77  : Y44 d Q 77 lv st σ ↔ zldR lv 0 (fun x => Y44 d Q 78 lv (.ref x :: st) σ) := yX_at (.aload_n 0, 1, 0, 0, 0, 0, []) rfl
theorem g44_78 {c : Nat} : Y44 d Q 78 lv (.ref c :: st) σ ↔ zK c = 4 ∧ Y44 d Q 81 lv (zfv σ c 3 :: st) σ := yX_at (.getfield 57, 3, 4, 3, 76, 0, []) rfl
theorem g44_81 {j : Int32} {c : Nat} : Y44 d Q 81 lv (.int j :: .ref c :: st) σ ↔ ((zK c = 101 ∨ zK c = 102) ∧ vp_in j (zLn c)) ∧ Y44 d Q 82 lv (.int (σ.1 c j.toNatClampNeg) :: st) σ := yX_at (.baload, 1, 0, 0, 0, 0, []) rfl
theorem g44_82  : Y44 d Q 82 lv st σ ↔ Y44 d Q 84 lv (.int 48 :: st) σ := yX_at (.bipush 48, 2, 0, 0, 0, 0, []) rfl
theorem g44_84 {x y : Int32} : Y44 d Q 84 lv (.int y :: .int x :: st) σ ↔ (¬ x = y → Y44 d Q 104 lv st σ) ∧ (x = y → Y44 d Q 87 lv st σ) := yX_at (.if_icmp .ne 20, 3, 104, 0, 0, 0, []) rfl
theorem g44_87  : Y44 d Q 87 lv st σ ↔ zldR lv 0 (fun x => Y44 d Q 88 lv (.ref x :: st) σ) := yX_at (.aload_n 0, 1, 0, 0, 0, 0, []) rfl
theorem g44_88 {c : Nat} : Y44 d Q 88 lv (.ref c :: st) σ ↔ zK c = 4 ∧ Y44 d Q 91 lv (zfv σ c 2 :: st) σ := yX_at (.getfield 23, 3, 4, 2, 68, 0, []) rfl
theorem g44_91  : Y44 d Q 91 lv st σ ↔ zldR lv 0 (fun x => Y44 d Q 92 lv (.ref x :: st) σ) := yX_at (.aload_n 0, 1, 0, 0, 0, 0, []) rfl
theorem g44_92 {c : Nat} : Y44 d Q 92 lv (.ref c :: st) σ ↔ zK c = 4 ∧ Y44 d Q 95 lv (zfv σ c 3 :: st) σ := yX_at (.getfield 57, 3, 4, 3, 76, 0, []) rfl
theorem g44_95 {x y : Int32} : Y44 d Q 95 lv (.int y :: .int x :: st) σ ↔ Y44 d Q 96 lv (.int (x - y) :: st) σ := yX_at (.isub, 1, 0, 0, 0, 0, []) rfl
theorem g44_96  : Y44 d Q 96 lv st σ ↔ Y44 d Q 97 lv (.int 1 :: st) σ := yX_at (.iconst 1, 1, 0, 0, 0, 0, []) rfl
theorem g44_97 {x y : Int32} : Y44 d Q 97 lv (.int y :: .int x :: st) σ ↔ (x ≤ y → Y44 d Q 104 lv st σ) ∧ (¬ x ≤ y → Y44 d Q 100 lv st σ) := yX_at (.if_icmp .le 7, 3, 104, 0, 0, 0, []) rfl
theorem g44_100  : Y44 d Q 100 lv st σ ↔ Y44 d Q 101 lv (.int 1 :: st) σ := yX_at (.iconst 1, 1, 0, 0, 0, 0, []) rfl
theorem g44_101  : Y44 d Q 101 lv st σ ↔ Y44 d Q 105 lv st σ := yX_at (.goto 4, 3, 105, 0, 0, 0, []) rfl
theorem g44_104  : Y44 d Q 104 lv st σ ↔ Y44 d Q 105 lv (.int 0 :: st) σ := yX_at (.iconst 0, 1, 0, 0, 0, 0, []) rfl
theorem g44_105 {x : Int32} : Y44 d Q 105 lv (.int x :: st) σ ↔ Y44 d Q 106 (zs1 1 (.int x) lv) st σ := yX_at (.istore_n 1, 1, 0, 0, 0, 0, []) rfl
theorem g44_106  : Y44 d Q 106 lv st σ ↔ zldR lv 0 (fun x => Y44 d Q 107 lv (.ref x :: st) σ) := yX_at (.aload_n 0, 1, 0, 0, 0, 0, []) rfl
theorem g44_107  : Y44 d Q 107 lv st σ ↔ zldI lv 1 (fun x => Y44 d Q 108 lv (.int x :: st) σ) := yX_at (.iload_n 1, 1, 0, 0, 0, 0, []) rfl
theorem g44_108 {x : Int32} : Y44 d Q 108 lv (.int x :: st) σ ↔ (¬ x = 0 → Y44 d Q 120 lv st σ) ∧ (x = 0 → Y44 d Q 111 lv st σ) := yX_at (.ifCond .ne 12, 3, 120, 0, 0, 0, []) rfl
theorem g44_111  : Y44 d Q 111 lv st σ ↔ zldR lv 0 (fun x => Y44 d Q 112 lv (.ref x :: st) σ) := yX_at (.aload_n 0, 1, 0, 0, 0, 0, []) rfl
theorem g44_112 {c : Nat} : Y44 d Q 112 lv (.ref c :: st) σ ↔ zK c = 4 ∧ Y44 d Q 115 lv (zfv σ c 5 :: st) σ := yX_at (.getfield 86, 3, 4, 5, 86, 0, []) rfl
theorem g44_115  : Y44 d Q 115 lv st σ ↔ Y44 d Q 117 lv (.int 99 :: st) σ := yX_at (.bipush 99, 2, 0, 0, 0, 0, []) rfl
theorem g44_117 {x y : Int32} : Y44 d Q 117 lv (.int y :: .int x :: st) σ ↔ (x ≤ y → Y44 d Q 124 lv st σ) ∧ (¬ x ≤ y → Y44 d Q 120 lv st σ) := yX_at (.if_icmp .le 7, 3, 124, 0, 0, 0, []) rfl
theorem g44_120  : Y44 d Q 120 lv st σ ↔ Y44 d Q 121 lv (.int 4 :: st) σ := yX_at (.iconst 4, 1, 0, 0, 0, 0, []) rfl
theorem g44_121  : Y44 d Q 121 lv st σ ↔ Y44 d Q 125 lv st σ := yX_at (.goto 4, 3, 125, 0, 0, 0, []) rfl
theorem g44_124  : Y44 d Q 124 lv st σ ↔ Y44 d Q 125 lv (.int 2 :: st) σ := yX_at (.iconst 2, 1, 0, 0, 0, 0, []) rfl
theorem g44_125 {x : Int32} {c : Nat} : Y44 d Q 125 lv (.int x :: .ref c :: st) σ ↔ zK c = 4 ∧ Y44 d Q 128 lv st (zwI σ c 4 x) := yX_at (.putfield 34, 3, 4, 4, 71, 0, []) rfl
theorem g44_128  : Y44 d Q 128 lv [] σ ↔ Q none σ := yX_at (.return_, 1, 0, 0, 0, 0, []) rfl
end G44
def Y45 (d : Nat) (Q : Option Value → zSt → Prop) (pc : Nat) (lv : zLv) (st : List Value) (σ : zSt) : Prop := yX (yE d) ySn zt45 Q pc lv st σ
theorem C45 {d : Nat} {as : List Value} {σ : zSt} {P : Option Value → zSt → Prop} (hl : (lg_sl as).length ≤ 1) (h : Y45 d P 0 (lv_args 0 as) [] σ) : yC (d + 1) 45 as σ P := yC_of (by decide) hl h
section G45
variable {d : Nat} {Q : Option Value → zSt → Prop} {lv : zLv} {st : List Value} {σ : zSt}
theorem g45_0  : Y45 d Q 0 lv st σ ↔ zldR lv 0 (fun x => Y45 d Q 1 lv (.ref x :: st) σ) := yX_at (.aload_n 0, 1, 0, 0, 0, 0, []) rfl
theorem g45_1 {c : Nat} : Y45 d Q 1 lv (.ref c :: st) σ ↔ zK c = 4 ∧ Y45 d Q 4 lv (zfv σ c 2 :: st) σ := yX_at (.getfield 23, 3, 4, 2, 68, 0, []) rfl
theorem g45_4  : Y45 d Q 4 lv st σ ↔ zldR lv 0 (fun x => Y45 d Q 5 lv (.ref x :: st) σ) := yX_at (.aload_n 0, 1, 0, 0, 0, 0, []) rfl
theorem g45_5 {c : Nat} : Y45 d Q 5 lv (.ref c :: st) σ ↔ zK c = 4 ∧ Y45 d Q 8 lv (zfv σ c 1 :: st) σ := yX_at (.getfield 19, 3, 4, 1, 67, 0, []) rfl
theorem g45_8 {x y : Int32} : Y45 d Q 8 lv (.int y :: .int x :: st) σ ↔ (y ≤ x → Y45 d Q 39 lv st σ) ∧ (¬ y ≤ x → Y45 d Q 11 lv st σ) := yX_at (.if_icmp .ge 31, 3, 39, 0, 0, 0, []) rfl
theorem g45_11  : Y45 d Q 11 lv st σ ↔ zldR lv 0 (fun x => Y45 d Q 12 lv (.ref x :: st) σ) := yX_at (.aload_n 0, 1, 0, 0, 0, 0, []) rfl
theorem g45_12 {c : Nat} : Y45 d Q 12 lv (.ref c :: st) σ ↔ zK c = 4 ∧ Y45 d Q 15 lv (zfv σ c 0 :: st) σ := yX_at (.getfield 9, 3, 4, 0, 66, 0, []) rfl
theorem g45_15  : Y45 d Q 15 lv st σ ↔ zldR lv 0 (fun x => Y45 d Q 16 lv (.ref x :: st) σ) := yX_at (.aload_n 0, 1, 0, 0, 0, 0, []) rfl
theorem g45_16 {c : Nat} : Y45 d Q 16 lv (.ref c :: st) σ ↔ zK c = 4 ∧ Y45 d Q 19 lv (zfv σ c 2 :: st) σ := yX_at (.getfield 23, 3, 4, 2, 68, 0, []) rfl
theorem g45_19 {j : Int32} {c : Nat} : Y45 d Q 19 lv (.int j :: .ref c :: st) σ ↔ ((zK c = 101 ∨ zK c = 102) ∧ vp_in j (zLn c)) ∧ Y45 d Q 20 lv (.int (σ.1 c j.toNatClampNeg) :: st) σ := yX_at (.baload, 1, 0, 0, 0, 0, []) rfl
theorem g45_20 {v0 : Value} : Y45 d Q 20 lv (v0 :: st) σ ↔ zrm st ∧ ∃ rv σ', yE d 48 [v0] σ rv σ' ∧ Y45 d Q 23 lv (rv.toList ++ st) σ' := yX_at (.invokestatic 105, 3, 48, 1, 91, 0, []) rfl
theorem g45_23 {x : Int32} : Y45 d Q 23 lv (.int x :: st) σ ↔ (x = 0 → Y45 d Q 39 lv st σ) ∧ (¬ x = 0 → Y45 d Q 26 lv st σ) := yX_at (.ifCond .eq 16, 3, 39, 0, 0, 0, []) rfl
theorem g45_26  : Y45 d Q 26 lv st σ ↔ zldR lv 0 (fun x => Y45 d Q 27 lv (.ref x :: st) σ) := yX_at (.aload_n 0, 1, 0, 0, 0, 0, []) rfl
theorem g45_27  : Y45 d Q 27 lv st σ ↔ zdup st (fun r => Y45 d Q 28 lv r σ) := yX_at (.dup, 1, 0, 0, 0, 0, []) rfl
theorem g45_28 {c : Nat} : Y45 d Q 28 lv (.ref c :: st) σ ↔ zK c = 4 ∧ Y45 d Q 31 lv (zfv σ c 2 :: st) σ := yX_at (.getfield 23, 3, 4, 2, 68, 0, []) rfl
theorem g45_31  : Y45 d Q 31 lv st σ ↔ Y45 d Q 32 lv (.int 1 :: st) σ := yX_at (.iconst 1, 1, 0, 0, 0, 0, []) rfl
theorem g45_32 {x y : Int32} : Y45 d Q 32 lv (.int y :: .int x :: st) σ ↔ Y45 d Q 33 lv (.int (x + y) :: st) σ := yX_at (.iadd, 1, 0, 0, 0, 0, []) rfl
theorem g45_33 {x : Int32} {c : Nat} : Y45 d Q 33 lv (.int x :: .ref c :: st) σ ↔ zK c = 4 ∧ Y45 d Q 36 lv st (zwI σ c 2 x) := yX_at (.putfield 23, 3, 4, 2, 68, 0, []) rfl
theorem g45_36  : Y45 d Q 36 lv st σ ↔ Y45 d Q 0 lv st σ := yX_at (.goto (-36), 3, 0, 0, 0, 0, []) rfl
theorem g45_39  : Y45 d Q 39 lv st σ ↔ zldR lv 0 (fun x => Y45 d Q 40 lv (.ref x :: st) σ) := yX_at (.aload_n 0, 1, 0, 0, 0, 0, []) rfl
theorem g45_40  : Y45 d Q 40 lv st σ ↔ zldR lv 0 (fun x => Y45 d Q 41 lv (.ref x :: st) σ) := yX_at (.aload_n 0, 1, 0, 0, 0, 0, []) rfl
theorem g45_41 {c : Nat} : Y45 d Q 41 lv (.ref c :: st) σ ↔ zK c = 4 ∧ Y45 d Q 44 lv (zfv σ c 2 :: st) σ := yX_at (.getfield 23, 3, 4, 2, 68, 0, []) rfl
theorem g45_44  : Y45 d Q 44 lv st σ ↔ zldR lv 0 (fun x => Y45 d Q 45 lv (.ref x :: st) σ) := yX_at (.aload_n 0, 1, 0, 0, 0, 0, []) rfl
theorem g45_45 {c : Nat} : Y45 d Q 45 lv (.ref c :: st) σ ↔ zK c = 4 ∧ Y45 d Q 48 lv (zfv σ c 3 :: st) σ := yX_at (.getfield 57, 3, 4, 3, 76, 0, []) rfl
theorem g45_48 {x y : Int32} : Y45 d Q 48 lv (.int y :: .int x :: st) σ ↔ (x ≤ y → Y45 d Q 55 lv st σ) ∧ (¬ x ≤ y → Y45 d Q 51 lv st σ) := yX_at (.if_icmp .le 7, 3, 55, 0, 0, 0, []) rfl
theorem g45_51  : Y45 d Q 51 lv st σ ↔ Y45 d Q 52 lv (.int 3 :: st) σ := yX_at (.iconst 3, 1, 0, 0, 0, 0, []) rfl
theorem g45_52  : Y45 d Q 52 lv st σ ↔ Y45 d Q 56 lv st σ := yX_at (.goto 4, 3, 56, 0, 0, 0, []) rfl
theorem g45_55  : Y45 d Q 55 lv st σ ↔ Y45 d Q 56 lv (.int 4 :: st) σ := yX_at (.iconst 4, 1, 0, 0, 0, 0, []) rfl
theorem g45_56 {x : Int32} {c : Nat} : Y45 d Q 56 lv (.int x :: .ref c :: st) σ ↔ zK c = 4 ∧ Y45 d Q 59 lv st (zwI σ c 4 x) := yX_at (.putfield 34, 3, 4, 4, 71, 0, []) rfl
theorem g45_59  : Y45 d Q 59 lv [] σ ↔ Q none σ := yX_at (.return_, 1, 0, 0, 0, 0, []) rfl
end G45
def Y46 (d : Nat) (Q : Option Value → zSt → Prop) (pc : Nat) (lv : zLv) (st : List Value) (σ : zSt) : Prop := yX (yE d) ySn zt46 Q pc lv st σ
theorem C46 {d : Nat} {as : List Value} {σ : zSt} {P : Option Value → zSt → Prop} (hl : (lg_sl as).length ≤ 3) (h : Y46 d P 0 (lv_args 0 as) [] σ) : yC (d + 1) 46 as σ P := yC_of (by decide) hl h
section G46
variable {d : Nat} {Q : Option Value → zSt → Prop} {lv : zLv} {st : List Value} {σ : zSt}
theorem g46_0  : Y46 d Q 0 lv st σ ↔ zldR lv 0 (fun x => Y46 d Q 1 lv (.ref x :: st) σ) := yX_at (.aload_n 0, 1, 0, 0, 0, 0, []) rfl
theorem g46_1 {c : Nat} : Y46 d Q 1 lv (.ref c :: st) σ ↔ zK c = 4 ∧ Y46 d Q 4 lv (zfv σ c 4 :: st) σ := yX_at (.getfield 34, 3, 4, 4, 71, 0, []) rfl
theorem g46_4  : Y46 d Q 4 lv st σ ↔ Y46 d Q 5 lv (.int 3 :: st) σ := yX_at (.iconst 3, 1, 0, 0, 0, 0, []) rfl
theorem g46_5 {x y : Int32} : Y46 d Q 5 lv (.int y :: .int x :: st) σ ↔ (¬ x = y → Y46 d Q 24 lv st σ) ∧ (x = y → Y46 d Q 8 lv st σ) := yX_at (.if_icmp .ne 19, 3, 24, 0, 0, 0, []) rfl
theorem g46_8  : Y46 d Q 8 lv st σ ↔ zldR lv 0 (fun x => Y46 d Q 9 lv (.ref x :: st) σ) := yX_at (.aload_n 0, 1, 0, 0, 0, 0, []) rfl
theorem g46_9 {c : Nat} : Y46 d Q 9 lv (.ref c :: st) σ ↔ zK c = 4 ∧ Y46 d Q 12 lv (zfv σ c 2 :: st) σ := yX_at (.getfield 23, 3, 4, 2, 68, 0, []) rfl
theorem g46_12  : Y46 d Q 12 lv st σ ↔ zldR lv 0 (fun x => Y46 d Q 13 lv (.ref x :: st) σ) := yX_at (.aload_n 0, 1, 0, 0, 0, 0, []) rfl
theorem g46_13 {c : Nat} : Y46 d Q 13 lv (.ref c :: st) σ ↔ zK c = 4 ∧ Y46 d Q 16 lv (zfv σ c 3 :: st) σ := yX_at (.getfield 57, 3, 4, 3, 76, 0, []) rfl
theorem g46_16 {x y : Int32} : Y46 d Q 16 lv (.int y :: .int x :: st) σ ↔ Y46 d Q 17 lv (.int (x - y) :: st) σ := yX_at (.isub, 1, 0, 0, 0, 0, []) rfl
theorem g46_17  : Y46 d Q 17 lv st σ ↔ zldR lv 1 (fun x => Y46 d Q 18 lv (.ref x :: st) σ) := yX_at (.aload_n 1, 1, 0, 0, 0, 0, []) rfl
theorem g46_18 {c : Nat} : Y46 d Q 18 lv (.ref c :: st) σ ↔ (zrcv 99 c ∧ zrm st) ∧ ∃ rv σ', yE d 148 [.ref c] σ rv σ' ∧ Y46 d Q 21 lv (rv.toList ++ st) σ' := yX_at (.invokevirtual 108, 3, 148, 0, 92, 0, []) rfl
theorem g46_21 {x y : Int32} : Y46 d Q 21 lv (.int y :: .int x :: st) σ ↔ (x = y → Y46 d Q 26 lv st σ) ∧ (¬ x = y → Y46 d Q 24 lv st σ) := yX_at (.if_icmp .eq 5, 3, 26, 0, 0, 0, []) rfl
theorem g46_24  : Y46 d Q 24 lv st σ ↔ Y46 d Q 25 lv (.int 0 :: st) σ := yX_at (.iconst 0, 1, 0, 0, 0, 0, []) rfl
theorem g46_25 {x : Int32} : Y46 d Q 25 lv [.int x] σ ↔ (x = 0 ∨ x = 1) ∧ Q (some (.int x)) σ := yX_at (.ireturn, 1, 1, 0, 0, 0, []) rfl
theorem g46_26  : Y46 d Q 26 lv st σ ↔ Y46 d Q 27 lv (.int 0 :: st) σ := yX_at (.iconst 0, 1, 0, 0, 0, 0, []) rfl
theorem g46_27 {x : Int32} : Y46 d Q 27 lv (.int x :: st) σ ↔ Y46 d Q 28 (zs1 2 (.int x) lv) st σ := yX_at (.istore_n 2, 1, 0, 0, 0, 0, []) rfl
theorem g46_28  : Y46 d Q 28 lv st σ ↔ zldI lv 2 (fun x => Y46 d Q 29 lv (.int x :: st) σ) := yX_at (.iload_n 2, 1, 0, 0, 0, 0, []) rfl
theorem g46_29  : Y46 d Q 29 lv st σ ↔ zldR lv 1 (fun x => Y46 d Q 30 lv (.ref x :: st) σ) := yX_at (.aload_n 1, 1, 0, 0, 0, 0, []) rfl
theorem g46_30 {c : Nat} : Y46 d Q 30 lv (.ref c :: st) σ ↔ (zrcv 99 c ∧ zrm st) ∧ ∃ rv σ', yE d 148 [.ref c] σ rv σ' ∧ Y46 d Q 33 lv (rv.toList ++ st) σ' := yX_at (.invokevirtual 108, 3, 148, 0, 92, 0, []) rfl
theorem g46_33 {x y : Int32} : Y46 d Q 33 lv (.int y :: .int x :: st) σ ↔ (y ≤ x → Y46 d Q 63 lv st σ) ∧ (¬ y ≤ x → Y46 d Q 36 lv st σ) := yX_at (.if_icmp .ge 30, 3, 63, 0, 0, 0, []) rfl
theorem g46_36  : Y46 d Q 36 lv st σ ↔ zldR lv 0 (fun x => Y46 d Q 37 lv (.ref x :: st) σ) := yX_at (.aload_n 0, 1, 0, 0, 0, 0, []) rfl
theorem g46_37 {c : Nat} : Y46 d Q 37 lv (.ref c :: st) σ ↔ zK c = 4 ∧ Y46 d Q 40 lv (zfv σ c 0 :: st) σ := yX_at (.getfield 9, 3, 4, 0, 66, 0, []) rfl
theorem g46_40  : Y46 d Q 40 lv st σ ↔ zldR lv 0 (fun x => Y46 d Q 41 lv (.ref x :: st) σ) := yX_at (.aload_n 0, 1, 0, 0, 0, 0, []) rfl
theorem g46_41 {c : Nat} : Y46 d Q 41 lv (.ref c :: st) σ ↔ zK c = 4 ∧ Y46 d Q 44 lv (zfv σ c 3 :: st) σ := yX_at (.getfield 57, 3, 4, 3, 76, 0, []) rfl
theorem g46_44  : Y46 d Q 44 lv st σ ↔ zldI lv 2 (fun x => Y46 d Q 45 lv (.int x :: st) σ) := yX_at (.iload_n 2, 1, 0, 0, 0, 0, []) rfl
theorem g46_45 {x y : Int32} : Y46 d Q 45 lv (.int y :: .int x :: st) σ ↔ Y46 d Q 46 lv (.int (x + y) :: st) σ := yX_at (.iadd, 1, 0, 0, 0, 0, []) rfl
theorem g46_46 {j : Int32} {c : Nat} : Y46 d Q 46 lv (.int j :: .ref c :: st) σ ↔ ((zK c = 101 ∨ zK c = 102) ∧ vp_in j (zLn c)) ∧ Y46 d Q 47 lv (.int (σ.1 c j.toNatClampNeg) :: st) σ := yX_at (.baload, 1, 0, 0, 0, 0, []) rfl
theorem g46_47  : Y46 d Q 47 lv st σ ↔ zldR lv 1 (fun x => Y46 d Q 48 lv (.ref x :: st) σ) := yX_at (.aload_n 1, 1, 0, 0, 0, 0, []) rfl
theorem g46_48  : Y46 d Q 48 lv st σ ↔ zldI lv 2 (fun x => Y46 d Q 49 lv (.int x :: st) σ) := yX_at (.iload_n 2, 1, 0, 0, 0, 0, []) rfl
theorem g46_49 {v0 : Value} {c : Nat} : Y46 d Q 49 lv (v0 :: .ref c :: st) σ ↔ (zrcv 99 c ∧ zrm st) ∧ ∃ rv σ', yE d 149 [.ref c, v0] σ rv σ' ∧ Y46 d Q 52 lv (rv.toList ++ st) σ' := yX_at (.invokevirtual 113, 3, 149, 1, 93, 0, []) rfl
theorem g46_52 {x y : Int32} : Y46 d Q 52 lv (.int y :: .int x :: st) σ ↔ (x = y → Y46 d Q 57 lv st σ) ∧ (¬ x = y → Y46 d Q 55 lv st σ) := yX_at (.if_icmp .eq 5, 3, 57, 0, 0, 0, []) rfl
theorem g46_55  : Y46 d Q 55 lv st σ ↔ Y46 d Q 56 lv (.int 0 :: st) σ := yX_at (.iconst 0, 1, 0, 0, 0, 0, []) rfl
theorem g46_56 {x : Int32} : Y46 d Q 56 lv [.int x] σ ↔ (x = 0 ∨ x = 1) ∧ Q (some (.int x)) σ := yX_at (.ireturn, 1, 1, 0, 0, 0, []) rfl
theorem g46_57  : Y46 d Q 57 lv st σ ↔ zldI lv 2 (fun x => Y46 d Q 60 (zs1 2 (.int (x + 1)) lv) st σ) := yX_at (.iinc 2 1, 3, 0, 0, 0, 0, []) rfl
theorem g46_60  : Y46 d Q 60 lv st σ ↔ Y46 d Q 28 lv st σ := yX_at (.goto (-32), 3, 28, 0, 0, 0, []) rfl
theorem g46_63  : Y46 d Q 63 lv st σ ↔ Y46 d Q 64 lv (.int 1 :: st) σ := yX_at (.iconst 1, 1, 0, 0, 0, 0, []) rfl
theorem g46_64 {x : Int32} : Y46 d Q 64 lv [.int x] σ ↔ (x = 0 ∨ x = 1) ∧ Q (some (.int x)) σ := yX_at (.ireturn, 1, 1, 0, 0, 0, []) rfl
end G46
def Y47 (d : Nat) (Q : Option Value → zSt → Prop) (pc : Nat) (lv : zLv) (st : List Value) (σ : zSt) : Prop := yX (yE d) ySn zt47 Q pc lv st σ
theorem C47 {d : Nat} {as : List Value} {σ : zSt} {P : Option Value → zSt → Prop} (hl : (lg_sl as).length ≤ 1) (h : Y47 d P 0 (lv_args 0 as) [] σ) : yC (d + 1) 47 as σ P := yC_of (by decide) hl h
section G47
variable {d : Nat} {Q : Option Value → zSt → Prop} {lv : zLv} {st : List Value} {σ : zSt}
theorem g47_0  : Y47 d Q 0 lv st σ ↔ zldI lv 0 (fun x => Y47 d Q 1 lv (.int x :: st) σ) := yX_at (.iload_n 0, 1, 0, 0, 0, 0, []) rfl
theorem g47_1  : Y47 d Q 1 lv st σ ↔ Y47 d Q 3 lv (.int 48 :: st) σ := yX_at (.bipush 48, 2, 0, 0, 0, 0, []) rfl
theorem g47_3 {x y : Int32} : Y47 d Q 3 lv (.int y :: .int x :: st) σ ↔ (x < y → Y47 d Q 16 lv st σ) ∧ (¬ x < y → Y47 d Q 6 lv st σ) := yX_at (.if_icmp .lt 13, 3, 16, 0, 0, 0, []) rfl
theorem g47_6  : Y47 d Q 6 lv st σ ↔ zldI lv 0 (fun x => Y47 d Q 7 lv (.int x :: st) σ) := yX_at (.iload_n 0, 1, 0, 0, 0, 0, []) rfl
theorem g47_7  : Y47 d Q 7 lv st σ ↔ Y47 d Q 9 lv (.int 57 :: st) σ := yX_at (.bipush 57, 2, 0, 0, 0, 0, []) rfl
theorem g47_9 {x y : Int32} : Y47 d Q 9 lv (.int y :: .int x :: st) σ ↔ (y < x → Y47 d Q 16 lv st σ) ∧ (¬ y < x → Y47 d Q 12 lv st σ) := yX_at (.if_icmp .gt 7, 3, 16, 0, 0, 0, []) rfl
theorem g47_12  : Y47 d Q 12 lv st σ ↔ Y47 d Q 13 lv (.int 1 :: st) σ := yX_at (.iconst 1, 1, 0, 0, 0, 0, []) rfl
theorem g47_13  : Y47 d Q 13 lv st σ ↔ Y47 d Q 17 lv st σ := yX_at (.goto 4, 3, 17, 0, 0, 0, []) rfl
theorem g47_16  : Y47 d Q 16 lv st σ ↔ Y47 d Q 17 lv (.int 0 :: st) σ := yX_at (.iconst 0, 1, 0, 0, 0, 0, []) rfl
theorem g47_17 {x : Int32} : Y47 d Q 17 lv [.int x] σ ↔ (x = 0 ∨ x = 1) ∧ Q (some (.int x)) σ := yX_at (.ireturn, 1, 1, 0, 0, 0, []) rfl
end G47
def Y48 (d : Nat) (Q : Option Value → zSt → Prop) (pc : Nat) (lv : zLv) (st : List Value) (σ : zSt) : Prop := yX (yE d) ySn zt48 Q pc lv st σ
theorem C48 {d : Nat} {as : List Value} {σ : zSt} {P : Option Value → zSt → Prop} (hl : (lg_sl as).length ≤ 1) (h : Y48 d P 0 (lv_args 0 as) [] σ) : yC (d + 1) 48 as σ P := yC_of (by decide) hl h
section G48
variable {d : Nat} {Q : Option Value → zSt → Prop} {lv : zLv} {st : List Value} {σ : zSt}
theorem g48_0  : Y48 d Q 0 lv st σ ↔ zldI lv 0 (fun x => Y48 d Q 1 lv (.int x :: st) σ) := yX_at (.iload_n 0, 1, 0, 0, 0, 0, []) rfl
theorem g48_1  : Y48 d Q 1 lv st σ ↔ Y48 d Q 3 lv (.int 97 :: st) σ := yX_at (.bipush 97, 2, 0, 0, 0, 0, []) rfl
theorem g48_3 {x y : Int32} : Y48 d Q 3 lv (.int y :: .int x :: st) σ ↔ (x < y → Y48 d Q 16 lv st σ) ∧ (¬ x < y → Y48 d Q 6 lv st σ) := yX_at (.if_icmp .lt 13, 3, 16, 0, 0, 0, []) rfl
theorem g48_6  : Y48 d Q 6 lv st σ ↔ zldI lv 0 (fun x => Y48 d Q 7 lv (.int x :: st) σ) := yX_at (.iload_n 0, 1, 0, 0, 0, 0, []) rfl
theorem g48_7  : Y48 d Q 7 lv st σ ↔ Y48 d Q 9 lv (.int 122 :: st) σ := yX_at (.bipush 122, 2, 0, 0, 0, 0, []) rfl
theorem g48_9 {x y : Int32} : Y48 d Q 9 lv (.int y :: .int x :: st) σ ↔ (y < x → Y48 d Q 16 lv st σ) ∧ (¬ y < x → Y48 d Q 12 lv st σ) := yX_at (.if_icmp .gt 7, 3, 16, 0, 0, 0, []) rfl
theorem g48_12  : Y48 d Q 12 lv st σ ↔ Y48 d Q 13 lv (.int 1 :: st) σ := yX_at (.iconst 1, 1, 0, 0, 0, 0, []) rfl
theorem g48_13  : Y48 d Q 13 lv st σ ↔ Y48 d Q 17 lv st σ := yX_at (.goto 4, 3, 17, 0, 0, 0, []) rfl
theorem g48_16  : Y48 d Q 16 lv st σ ↔ Y48 d Q 17 lv (.int 0 :: st) σ := yX_at (.iconst 0, 1, 0, 0, 0, 0, []) rfl
theorem g48_17 {x : Int32} : Y48 d Q 17 lv [.int x] σ ↔ (x = 0 ∨ x = 1) ∧ Q (some (.int x)) σ := yX_at (.ireturn, 1, 1, 0, 0, 0, []) rfl
end G48
def Y49 (d : Nat) (Q : Option Value → zSt → Prop) (pc : Nat) (lv : zLv) (st : List Value) (σ : zSt) : Prop := yX (yE d) ySn zt49 Q pc lv st σ
theorem C49 {d : Nat} {as : List Value} {σ : zSt} {P : Option Value → zSt → Prop} (hl : (lg_sl as).length ≤ 1) (h : Y49 d P 0 (lv_args 0 as) [] σ) : yC (d + 1) 49 as σ P := yC_of (by decide) hl h
section G49
variable {d : Nat} {Q : Option Value → zSt → Prop} {lv : zLv} {st : List Value} {σ : zSt}
theorem g49_0  : Y49 d Q 0 lv st σ ↔ zldR lv 0 (fun x => Y49 d Q 1 lv (.ref x :: st) σ) := yX_at (.aload_n 0, 1, 0, 0, 0, 0, []) rfl
theorem g49_1  : Y49 d Q 1 lv st σ ↔ Y49 d Q 2 lv (.int 0 :: st) σ := yX_at (.iconst 0, 1, 0, 0, 0, 0, []) rfl
theorem g49_2 {x : Int32} {c : Nat} : Y49 d Q 2 lv (.int x :: .ref c :: st) σ ↔ zK c = 5 ∧ Y49 d Q 5 lv st (zwI σ c 0 x) := yX_at (.putfield 39, 3, 5, 0, 94, 0, []) rfl
theorem g49_5  : Y49 d Q 5 lv st σ ↔ zldR lv 0 (fun x => Y49 d Q 6 lv (.ref x :: st) σ) := yX_at (.aload_n 0, 1, 0, 0, 0, 0, []) rfl
theorem g49_6  : Y49 d Q 6 lv st σ ↔ Y49 d Q 7 lv (.int 0 :: st) σ := yX_at (.iconst 0, 1, 0, 0, 0, 0, []) rfl
theorem g49_7 {x : Int32} {c : Nat} : Y49 d Q 7 lv (.int x :: .ref c :: st) σ ↔ zK c = 5 ∧ Y49 d Q 10 lv st (zwI σ c 4 x) := yX_at (.putfield 43, 3, 5, 4, 95, 0, []) rfl
theorem g49_10  : Y49 d Q 10 lv st σ ↔ zldR lv 0 (fun x => Y49 d Q 11 lv (.ref x :: st) σ) := yX_at (.aload_n 0, 1, 0, 0, 0, 0, []) rfl
theorem g49_11  : Y49 d Q 11 lv st σ ↔ Y49 d Q 12 lv (.int 0 :: st) σ := yX_at (.iconst 0, 1, 0, 0, 0, 0, []) rfl
theorem g49_12 {x : Int32} {c : Nat} : Y49 d Q 12 lv (.int x :: .ref c :: st) σ ↔ zK c = 5 ∧ Y49 d Q 15 lv st (zwI σ c 10 x) := yX_at (.putfield 46, 3, 5, 10, 96, 0, []) rfl
theorem g49_15  : Y49 d Q 15 lv st σ ↔ zldR lv 0 (fun x => Y49 d Q 16 lv (.ref x :: st) σ) := yX_at (.aload_n 0, 1, 0, 0, 0, 0, []) rfl
theorem g49_16 {c : Nat} : Y49 d Q 16 lv (.ref c :: st) σ ↔ zK c = 5 ∧ Y49 d Q 19 lv (zfv σ c 11 :: st) σ := yX_at (.getfield 36, 3, 5, 11, 97, 0, []) rfl
theorem g49_19  : Y49 d Q 19 lv st σ ↔ Y49 d Q 20 lv (.int 0 :: st) σ := yX_at (.iconst 0, 1, 0, 0, 0, 0, []) rfl
theorem g49_20 {v0 v1 : Value} : Y49 d Q 20 lv (v1 :: v0 :: st) σ ↔ zrm st ∧ ∃ rv σ', yE d 147 [v0, v1] σ rv σ' ∧ Y49 d Q 23 lv (rv.toList ++ st) σ' := yX_at (.invokestatic 49, 3, 147, 2, 98, 0, []) rfl
theorem g49_23  : Y49 d Q 23 lv [] σ ↔ Q none σ := yX_at (.return_, 1, 0, 0, 0, 0, []) rfl
end G49
def Y50 (d : Nat) (Q : Option Value → zSt → Prop) (pc : Nat) (lv : zLv) (st : List Value) (σ : zSt) : Prop := yX (yE d) ySn zt50 Q pc lv st σ
theorem C50 {d : Nat} {as : List Value} {σ : zSt} {P : Option Value → zSt → Prop} (hl : (lg_sl as).length ≤ 2) (h : Y50 d P 0 (lv_args 0 as) [] σ) : yC (d + 1) 50 as σ P := yC_of (by decide) hl h
section G50
variable {d : Nat} {Q : Option Value → zSt → Prop} {lv : zLv} {st : List Value} {σ : zSt}
theorem g50_0  : Y50 d Q 0 lv st σ ↔ zldI lv 1 (fun x => Y50 d Q 1 lv (.int x :: st) σ) := yX_at (.iload_n 1, 1, 0, 0, 0, 0, []) rfl
theorem g50_1 {x : Int32} : Y50 d Q 1 lv (.int x :: st) σ ↔ (x < 0 → Y50 d Q 16 lv st σ) ∧ (¬ x < 0 → Y50 d Q 4 lv st σ) := yX_at (.ifCond .lt 15, 3, 16, 0, 0, 0, []) rfl
theorem g50_4  : Y50 d Q 4 lv st σ ↔ zldI lv 1 (fun x => Y50 d Q 5 lv (.int x :: st) σ) := yX_at (.iload_n 1, 1, 0, 0, 0, 0, []) rfl
theorem g50_5  : Y50 d Q 5 lv st σ ↔ zldR lv 0 (fun x => Y50 d Q 6 lv (.ref x :: st) σ) := yX_at (.aload_n 0, 1, 0, 0, 0, 0, []) rfl
theorem g50_6 {c : Nat} : Y50 d Q 6 lv (.ref c :: st) σ ↔ zK c = 5 ∧ Y50 d Q 9 lv (zfv σ c 0 :: st) σ := yX_at (.getfield 39, 3, 5, 0, 94, 0, []) rfl
theorem g50_9 {x y : Int32} : Y50 d Q 9 lv (.int y :: .int x :: st) σ ↔ (y ≤ x → Y50 d Q 16 lv st σ) ∧ (¬ y ≤ x → Y50 d Q 12 lv st σ) := yX_at (.if_icmp .ge 7, 3, 16, 0, 0, 0, []) rfl
theorem g50_12  : Y50 d Q 12 lv st σ ↔ Y50 d Q 13 lv (.int 1 :: st) σ := yX_at (.iconst 1, 1, 0, 0, 0, 0, []) rfl
theorem g50_13  : Y50 d Q 13 lv st σ ↔ Y50 d Q 17 lv st σ := yX_at (.goto 4, 3, 17, 0, 0, 0, []) rfl
theorem g50_16  : Y50 d Q 16 lv st σ ↔ Y50 d Q 17 lv (.int 0 :: st) σ := yX_at (.iconst 0, 1, 0, 0, 0, 0, []) rfl
theorem g50_17 {x : Int32} : Y50 d Q 17 lv [.int x] σ ↔ (x = 0 ∨ x = 1) ∧ Q (some (.int x)) σ := yX_at (.ireturn, 1, 1, 0, 0, 0, []) rfl
end G50
def Y51 (d : Nat) (Q : Option Value → zSt → Prop) (pc : Nat) (lv : zLv) (st : List Value) (σ : zSt) : Prop := yX (yE d) ySn zt51 Q pc lv st σ
theorem C51 {d : Nat} {as : List Value} {σ : zSt} {P : Option Value → zSt → Prop} (hl : (lg_sl as).length ≤ 2) (h : Y51 d P 0 (lv_args 0 as) [] σ) : yC (d + 1) 51 as σ P := yC_of (by decide) hl h
section G51
variable {d : Nat} {Q : Option Value → zSt → Prop} {lv : zLv} {st : List Value} {σ : zSt}
theorem g51_0  : Y51 d Q 0 lv st σ ↔ zldI lv 1 (fun x => Y51 d Q 1 lv (.int x :: st) σ) := yX_at (.iload_n 1, 1, 0, 0, 0, 0, []) rfl
theorem g51_1 {x : Int32} : Y51 d Q 1 lv (.int x :: st) σ ↔ (x < 0 → Y51 d Q 16 lv st σ) ∧ (¬ x < 0 → Y51 d Q 4 lv st σ) := yX_at (.ifCond .lt 15, 3, 16, 0, 0, 0, []) rfl
theorem g51_4  : Y51 d Q 4 lv st σ ↔ zldI lv 1 (fun x => Y51 d Q 5 lv (.int x :: st) σ) := yX_at (.iload_n 1, 1, 0, 0, 0, 0, []) rfl
theorem g51_5  : Y51 d Q 5 lv st σ ↔ zldR lv 0 (fun x => Y51 d Q 6 lv (.ref x :: st) σ) := yX_at (.aload_n 0, 1, 0, 0, 0, 0, []) rfl
theorem g51_6 {c : Nat} : Y51 d Q 6 lv (.ref c :: st) σ ↔ zK c = 5 ∧ Y51 d Q 9 lv (zfv σ c 4 :: st) σ := yX_at (.getfield 43, 3, 5, 4, 95, 0, []) rfl
theorem g51_9 {x y : Int32} : Y51 d Q 9 lv (.int y :: .int x :: st) σ ↔ (y ≤ x → Y51 d Q 16 lv st σ) ∧ (¬ y ≤ x → Y51 d Q 12 lv st σ) := yX_at (.if_icmp .ge 7, 3, 16, 0, 0, 0, []) rfl
theorem g51_12  : Y51 d Q 12 lv st σ ↔ Y51 d Q 13 lv (.int 1 :: st) σ := yX_at (.iconst 1, 1, 0, 0, 0, 0, []) rfl
theorem g51_13  : Y51 d Q 13 lv st σ ↔ Y51 d Q 17 lv st σ := yX_at (.goto 4, 3, 17, 0, 0, 0, []) rfl
theorem g51_16  : Y51 d Q 16 lv st σ ↔ Y51 d Q 17 lv (.int 0 :: st) σ := yX_at (.iconst 0, 1, 0, 0, 0, 0, []) rfl
theorem g51_17 {x : Int32} : Y51 d Q 17 lv [.int x] σ ↔ (x = 0 ∨ x = 1) ∧ Q (some (.int x)) σ := yX_at (.ireturn, 1, 1, 0, 0, 0, []) rfl
end G51
def Y52 (d : Nat) (Q : Option Value → zSt → Prop) (pc : Nat) (lv : zLv) (st : List Value) (σ : zSt) : Prop := yX (yE d) ySn zt52 Q pc lv st σ
theorem C52 {d : Nat} {as : List Value} {σ : zSt} {P : Option Value → zSt → Prop} (hl : (lg_sl as).length ≤ 2) (h : Y52 d P 0 (lv_args 0 as) [] σ) : yC (d + 1) 52 as σ P := yC_of (by decide) hl h
section G52
variable {d : Nat} {Q : Option Value → zSt → Prop} {lv : zLv} {st : List Value} {σ : zSt}
theorem g52_0  : Y52 d Q 0 lv st σ ↔ zldR lv 0 (fun x => Y52 d Q 1 lv (.ref x :: st) σ) := yX_at (.aload_n 0, 1, 0, 0, 0, 0, []) rfl
theorem g52_1 {c : Nat} : Y52 d Q 1 lv (.ref c :: st) σ ↔ zK c = 5 ∧ Y52 d Q 4 lv (zfv σ c 1 :: st) σ := yX_at (.getfield 9, 3, 5, 1, 99, 0, []) rfl
theorem g52_4  : Y52 d Q 4 lv st σ ↔ zldR lv 0 (fun x => Y52 d Q 5 lv (.ref x :: st) σ) := yX_at (.aload_n 0, 1, 0, 0, 0, 0, []) rfl
theorem g52_5 {c : Nat} : Y52 d Q 5 lv (.ref c :: st) σ ↔ zK c = 5 ∧ Y52 d Q 8 lv (zfv σ c 0 :: st) σ := yX_at (.getfield 39, 3, 5, 0, 94, 0, []) rfl
theorem g52_8  : Y52 d Q 8 lv st σ ↔ zldR lv 1 (fun x => Y52 d Q 9 lv (.ref x :: st) σ) := yX_at (.aload_n 1, 1, 0, 0, 0, 0, []) rfl
theorem g52_9  : Y52 d Q 9 lv st σ ↔ Y52 d Q 10 lv (.int 0 :: st) σ := yX_at (.iconst 0, 1, 0, 0, 0, 0, []) rfl
theorem g52_10 {j : Int32} {c : Nat} : Y52 d Q 10 lv (.int j :: .ref c :: st) σ ↔ (zK c = 100 ∧ vp_in j (zLn c)) ∧ Y52 d Q 11 lv (.int (σ.1 c j.toNatClampNeg) :: st) σ := yX_at (.iaload, 1, 0, 0, 0, 0, []) rfl
theorem g52_11 {x j : Int32} {c : Nat} : Y52 d Q 11 lv (.int x :: .int j :: .ref c :: st) σ ↔ (zK c = 100 ∧ vp_in j (zLn c)) ∧ Y52 d Q 12 lv st (zwI σ c j.toNatClampNeg x) := yX_at (.iastore, 1, 0, 0, 0, 0, []) rfl
theorem g52_12  : Y52 d Q 12 lv st σ ↔ zldR lv 0 (fun x => Y52 d Q 13 lv (.ref x :: st) σ) := yX_at (.aload_n 0, 1, 0, 0, 0, 0, []) rfl
theorem g52_13 {c : Nat} : Y52 d Q 13 lv (.ref c :: st) σ ↔ zK c = 5 ∧ Y52 d Q 16 lv (zfv σ c 2 :: st) σ := yX_at (.getfield 15, 3, 5, 2, 100, 0, []) rfl
theorem g52_16  : Y52 d Q 16 lv st σ ↔ zldR lv 0 (fun x => Y52 d Q 17 lv (.ref x :: st) σ) := yX_at (.aload_n 0, 1, 0, 0, 0, 0, []) rfl
theorem g52_17 {c : Nat} : Y52 d Q 17 lv (.ref c :: st) σ ↔ zK c = 5 ∧ Y52 d Q 20 lv (zfv σ c 0 :: st) σ := yX_at (.getfield 39, 3, 5, 0, 94, 0, []) rfl
theorem g52_20  : Y52 d Q 20 lv st σ ↔ zldR lv 1 (fun x => Y52 d Q 21 lv (.ref x :: st) σ) := yX_at (.aload_n 1, 1, 0, 0, 0, 0, []) rfl
theorem g52_21  : Y52 d Q 21 lv st σ ↔ Y52 d Q 22 lv (.int 1 :: st) σ := yX_at (.iconst 1, 1, 0, 0, 0, 0, []) rfl
theorem g52_22 {j : Int32} {c : Nat} : Y52 d Q 22 lv (.int j :: .ref c :: st) σ ↔ (zK c = 100 ∧ vp_in j (zLn c)) ∧ Y52 d Q 23 lv (.int (σ.1 c j.toNatClampNeg) :: st) σ := yX_at (.iaload, 1, 0, 0, 0, 0, []) rfl
theorem g52_23 {x j : Int32} {c : Nat} : Y52 d Q 23 lv (.int x :: .int j :: .ref c :: st) σ ↔ (zK c = 100 ∧ vp_in j (zLn c)) ∧ Y52 d Q 24 lv st (zwI σ c j.toNatClampNeg x) := yX_at (.iastore, 1, 0, 0, 0, 0, []) rfl
theorem g52_24  : Y52 d Q 24 lv st σ ↔ zldR lv 0 (fun x => Y52 d Q 25 lv (.ref x :: st) σ) := yX_at (.aload_n 0, 1, 0, 0, 0, 0, []) rfl
theorem g52_25 {c : Nat} : Y52 d Q 25 lv (.ref c :: st) σ ↔ zK c = 5 ∧ Y52 d Q 28 lv (zfv σ c 3 :: st) σ := yX_at (.getfield 18, 3, 5, 3, 101, 0, []) rfl
theorem g52_28  : Y52 d Q 28 lv st σ ↔ zldR lv 0 (fun x => Y52 d Q 29 lv (.ref x :: st) σ) := yX_at (.aload_n 0, 1, 0, 0, 0, 0, []) rfl
theorem g52_29 {c : Nat} : Y52 d Q 29 lv (.ref c :: st) σ ↔ zK c = 5 ∧ Y52 d Q 32 lv (zfv σ c 0 :: st) σ := yX_at (.getfield 39, 3, 5, 0, 94, 0, []) rfl
theorem g52_32  : Y52 d Q 32 lv st σ ↔ zldR lv 1 (fun x => Y52 d Q 33 lv (.ref x :: st) σ) := yX_at (.aload_n 1, 1, 0, 0, 0, 0, []) rfl
theorem g52_33  : Y52 d Q 33 lv st σ ↔ Y52 d Q 34 lv (.int 2 :: st) σ := yX_at (.iconst 2, 1, 0, 0, 0, 0, []) rfl
theorem g52_34 {j : Int32} {c : Nat} : Y52 d Q 34 lv (.int j :: .ref c :: st) σ ↔ (zK c = 100 ∧ vp_in j (zLn c)) ∧ Y52 d Q 35 lv (.int (σ.1 c j.toNatClampNeg) :: st) σ := yX_at (.iaload, 1, 0, 0, 0, 0, []) rfl
theorem g52_35 {x j : Int32} {c : Nat} : Y52 d Q 35 lv (.int x :: .int j :: .ref c :: st) σ ↔ (zK c = 100 ∧ vp_in j (zLn c)) ∧ Y52 d Q 36 lv st (zwI σ c j.toNatClampNeg x) := yX_at (.iastore, 1, 0, 0, 0, 0, []) rfl
theorem g52_36  : Y52 d Q 36 lv st σ ↔ zldR lv 0 (fun x => Y52 d Q 37 lv (.ref x :: st) σ) := yX_at (.aload_n 0, 1, 0, 0, 0, 0, []) rfl
theorem g52_37  : Y52 d Q 37 lv st σ ↔ zdup st (fun r => Y52 d Q 38 lv r σ) := yX_at (.dup, 1, 0, 0, 0, 0, []) rfl
theorem g52_38 {c : Nat} : Y52 d Q 38 lv (.ref c :: st) σ ↔ zK c = 5 ∧ Y52 d Q 41 lv (zfv σ c 0 :: st) σ := yX_at (.getfield 39, 3, 5, 0, 94, 0, []) rfl
theorem g52_41  : Y52 d Q 41 lv st σ ↔ Y52 d Q 42 lv (.int 1 :: st) σ := yX_at (.iconst 1, 1, 0, 0, 0, 0, []) rfl
theorem g52_42 {x y : Int32} : Y52 d Q 42 lv (.int y :: .int x :: st) σ ↔ Y52 d Q 43 lv (.int (x + y) :: st) σ := yX_at (.iadd, 1, 0, 0, 0, 0, []) rfl
theorem g52_43 {x : Int32} {c : Nat} : Y52 d Q 43 lv (.int x :: .ref c :: st) σ ↔ zK c = 5 ∧ Y52 d Q 46 lv st (zwI σ c 0 x) := yX_at (.putfield 39, 3, 5, 0, 94, 0, []) rfl
theorem g52_46  : Y52 d Q 46 lv [] σ ↔ Q none σ := yX_at (.return_, 1, 0, 0, 0, 0, []) rfl
end G52
def Y53 (d : Nat) (Q : Option Value → zSt → Prop) (pc : Nat) (lv : zLv) (st : List Value) (σ : zSt) : Prop := yX (yE d) ySn zt53 Q pc lv st σ
theorem C53 {d : Nat} {as : List Value} {σ : zSt} {P : Option Value → zSt → Prop} (hl : (lg_sl as).length ≤ 2) (h : Y53 d P 0 (lv_args 0 as) [] σ) : yC (d + 1) 53 as σ P := yC_of (by decide) hl h
section G53
variable {d : Nat} {Q : Option Value → zSt → Prop} {lv : zLv} {st : List Value} {σ : zSt}
theorem g53_0  : Y53 d Q 0 lv st σ ↔ zldR lv 0 (fun x => Y53 d Q 1 lv (.ref x :: st) σ) := yX_at (.aload_n 0, 1, 0, 0, 0, 0, []) rfl
theorem g53_1 {c : Nat} : Y53 d Q 1 lv (.ref c :: st) σ ↔ zK c = 5 ∧ Y53 d Q 4 lv (zfv σ c 5 :: st) σ := yX_at (.getfield 21, 3, 5, 5, 102, 0, []) rfl
theorem g53_4  : Y53 d Q 4 lv st σ ↔ zldR lv 0 (fun x => Y53 d Q 5 lv (.ref x :: st) σ) := yX_at (.aload_n 0, 1, 0, 0, 0, 0, []) rfl
theorem g53_5 {c : Nat} : Y53 d Q 5 lv (.ref c :: st) σ ↔ zK c = 5 ∧ Y53 d Q 8 lv (zfv σ c 4 :: st) σ := yX_at (.getfield 43, 3, 5, 4, 95, 0, []) rfl
theorem g53_8  : Y53 d Q 8 lv st σ ↔ zldR lv 1 (fun x => Y53 d Q 9 lv (.ref x :: st) σ) := yX_at (.aload_n 1, 1, 0, 0, 0, 0, []) rfl
theorem g53_9  : Y53 d Q 9 lv st σ ↔ Y53 d Q 10 lv (.int 0 :: st) σ := yX_at (.iconst 0, 1, 0, 0, 0, 0, []) rfl
theorem g53_10 {j : Int32} {c : Nat} : Y53 d Q 10 lv (.int j :: .ref c :: st) σ ↔ (zK c = 100 ∧ vp_in j (zLn c)) ∧ Y53 d Q 11 lv (.int (σ.1 c j.toNatClampNeg) :: st) σ := yX_at (.iaload, 1, 0, 0, 0, 0, []) rfl
theorem g53_11 {x j : Int32} {c : Nat} : Y53 d Q 11 lv (.int x :: .int j :: .ref c :: st) σ ↔ (zK c = 100 ∧ vp_in j (zLn c)) ∧ Y53 d Q 12 lv st (zwI σ c j.toNatClampNeg x) := yX_at (.iastore, 1, 0, 0, 0, 0, []) rfl
theorem g53_12  : Y53 d Q 12 lv st σ ↔ zldR lv 0 (fun x => Y53 d Q 13 lv (.ref x :: st) σ) := yX_at (.aload_n 0, 1, 0, 0, 0, 0, []) rfl
theorem g53_13 {c : Nat} : Y53 d Q 13 lv (.ref c :: st) σ ↔ zK c = 5 ∧ Y53 d Q 16 lv (zfv σ c 6 :: st) σ := yX_at (.getfield 24, 3, 5, 6, 103, 0, []) rfl
theorem g53_16  : Y53 d Q 16 lv st σ ↔ zldR lv 0 (fun x => Y53 d Q 17 lv (.ref x :: st) σ) := yX_at (.aload_n 0, 1, 0, 0, 0, 0, []) rfl
theorem g53_17 {c : Nat} : Y53 d Q 17 lv (.ref c :: st) σ ↔ zK c = 5 ∧ Y53 d Q 20 lv (zfv σ c 4 :: st) σ := yX_at (.getfield 43, 3, 5, 4, 95, 0, []) rfl
theorem g53_20  : Y53 d Q 20 lv st σ ↔ zldR lv 1 (fun x => Y53 d Q 21 lv (.ref x :: st) σ) := yX_at (.aload_n 1, 1, 0, 0, 0, 0, []) rfl
theorem g53_21  : Y53 d Q 21 lv st σ ↔ Y53 d Q 22 lv (.int 1 :: st) σ := yX_at (.iconst 1, 1, 0, 0, 0, 0, []) rfl
theorem g53_22 {j : Int32} {c : Nat} : Y53 d Q 22 lv (.int j :: .ref c :: st) σ ↔ (zK c = 100 ∧ vp_in j (zLn c)) ∧ Y53 d Q 23 lv (.int (σ.1 c j.toNatClampNeg) :: st) σ := yX_at (.iaload, 1, 0, 0, 0, 0, []) rfl
theorem g53_23 {x j : Int32} {c : Nat} : Y53 d Q 23 lv (.int x :: .int j :: .ref c :: st) σ ↔ (zK c = 100 ∧ vp_in j (zLn c)) ∧ Y53 d Q 24 lv st (zwI σ c j.toNatClampNeg x) := yX_at (.iastore, 1, 0, 0, 0, 0, []) rfl
theorem g53_24  : Y53 d Q 24 lv st σ ↔ zldR lv 0 (fun x => Y53 d Q 25 lv (.ref x :: st) σ) := yX_at (.aload_n 0, 1, 0, 0, 0, 0, []) rfl
theorem g53_25 {c : Nat} : Y53 d Q 25 lv (.ref c :: st) σ ↔ zK c = 5 ∧ Y53 d Q 28 lv (zfv σ c 7 :: st) σ := yX_at (.getfield 27, 3, 5, 7, 104, 0, []) rfl
theorem g53_28  : Y53 d Q 28 lv st σ ↔ zldR lv 0 (fun x => Y53 d Q 29 lv (.ref x :: st) σ) := yX_at (.aload_n 0, 1, 0, 0, 0, 0, []) rfl
theorem g53_29 {c : Nat} : Y53 d Q 29 lv (.ref c :: st) σ ↔ zK c = 5 ∧ Y53 d Q 32 lv (zfv σ c 4 :: st) σ := yX_at (.getfield 43, 3, 5, 4, 95, 0, []) rfl
theorem g53_32  : Y53 d Q 32 lv st σ ↔ zldR lv 1 (fun x => Y53 d Q 33 lv (.ref x :: st) σ) := yX_at (.aload_n 1, 1, 0, 0, 0, 0, []) rfl
theorem g53_33  : Y53 d Q 33 lv st σ ↔ Y53 d Q 34 lv (.int 2 :: st) σ := yX_at (.iconst 2, 1, 0, 0, 0, 0, []) rfl
theorem g53_34 {j : Int32} {c : Nat} : Y53 d Q 34 lv (.int j :: .ref c :: st) σ ↔ (zK c = 100 ∧ vp_in j (zLn c)) ∧ Y53 d Q 35 lv (.int (σ.1 c j.toNatClampNeg) :: st) σ := yX_at (.iaload, 1, 0, 0, 0, 0, []) rfl
theorem g53_35 {x j : Int32} {c : Nat} : Y53 d Q 35 lv (.int x :: .int j :: .ref c :: st) σ ↔ (zK c = 100 ∧ vp_in j (zLn c)) ∧ Y53 d Q 36 lv st (zwI σ c j.toNatClampNeg x) := yX_at (.iastore, 1, 0, 0, 0, 0, []) rfl
theorem g53_36  : Y53 d Q 36 lv st σ ↔ zldR lv 0 (fun x => Y53 d Q 37 lv (.ref x :: st) σ) := yX_at (.aload_n 0, 1, 0, 0, 0, 0, []) rfl
theorem g53_37 {c : Nat} : Y53 d Q 37 lv (.ref c :: st) σ ↔ zK c = 5 ∧ Y53 d Q 40 lv (zfv σ c 8 :: st) σ := yX_at (.getfield 30, 3, 5, 8, 105, 0, []) rfl
theorem g53_40  : Y53 d Q 40 lv st σ ↔ zldR lv 0 (fun x => Y53 d Q 41 lv (.ref x :: st) σ) := yX_at (.aload_n 0, 1, 0, 0, 0, 0, []) rfl
theorem g53_41 {c : Nat} : Y53 d Q 41 lv (.ref c :: st) σ ↔ zK c = 5 ∧ Y53 d Q 44 lv (zfv σ c 4 :: st) σ := yX_at (.getfield 43, 3, 5, 4, 95, 0, []) rfl
theorem g53_44  : Y53 d Q 44 lv st σ ↔ zldR lv 1 (fun x => Y53 d Q 45 lv (.ref x :: st) σ) := yX_at (.aload_n 1, 1, 0, 0, 0, 0, []) rfl
theorem g53_45  : Y53 d Q 45 lv st σ ↔ Y53 d Q 46 lv (.int 3 :: st) σ := yX_at (.iconst 3, 1, 0, 0, 0, 0, []) rfl
theorem g53_46 {j : Int32} {c : Nat} : Y53 d Q 46 lv (.int j :: .ref c :: st) σ ↔ (zK c = 100 ∧ vp_in j (zLn c)) ∧ Y53 d Q 47 lv (.int (σ.1 c j.toNatClampNeg) :: st) σ := yX_at (.iaload, 1, 0, 0, 0, 0, []) rfl
theorem g53_47 {x j : Int32} {c : Nat} : Y53 d Q 47 lv (.int x :: .int j :: .ref c :: st) σ ↔ (zK c = 100 ∧ vp_in j (zLn c)) ∧ Y53 d Q 48 lv st (zwI σ c j.toNatClampNeg x) := yX_at (.iastore, 1, 0, 0, 0, 0, []) rfl
theorem g53_48  : Y53 d Q 48 lv st σ ↔ zldR lv 0 (fun x => Y53 d Q 49 lv (.ref x :: st) σ) := yX_at (.aload_n 0, 1, 0, 0, 0, 0, []) rfl
theorem g53_49 {c : Nat} : Y53 d Q 49 lv (.ref c :: st) σ ↔ zK c = 5 ∧ Y53 d Q 52 lv (zfv σ c 9 :: st) σ := yX_at (.getfield 33, 3, 5, 9, 106, 0, []) rfl
theorem g53_52  : Y53 d Q 52 lv st σ ↔ zldR lv 0 (fun x => Y53 d Q 53 lv (.ref x :: st) σ) := yX_at (.aload_n 0, 1, 0, 0, 0, 0, []) rfl
theorem g53_53 {c : Nat} : Y53 d Q 53 lv (.ref c :: st) σ ↔ zK c = 5 ∧ Y53 d Q 56 lv (zfv σ c 4 :: st) σ := yX_at (.getfield 43, 3, 5, 4, 95, 0, []) rfl
theorem g53_56  : Y53 d Q 56 lv st σ ↔ zldR lv 1 (fun x => Y53 d Q 57 lv (.ref x :: st) σ) := yX_at (.aload_n 1, 1, 0, 0, 0, 0, []) rfl
theorem g53_57  : Y53 d Q 57 lv st σ ↔ Y53 d Q 58 lv (.int 4 :: st) σ := yX_at (.iconst 4, 1, 0, 0, 0, 0, []) rfl
theorem g53_58 {j : Int32} {c : Nat} : Y53 d Q 58 lv (.int j :: .ref c :: st) σ ↔ (zK c = 100 ∧ vp_in j (zLn c)) ∧ Y53 d Q 59 lv (.int (σ.1 c j.toNatClampNeg) :: st) σ := yX_at (.iaload, 1, 0, 0, 0, 0, []) rfl
theorem g53_59 {x j : Int32} {c : Nat} : Y53 d Q 59 lv (.int x :: .int j :: .ref c :: st) σ ↔ (zK c = 100 ∧ vp_in j (zLn c)) ∧ Y53 d Q 60 lv st (zwI σ c j.toNatClampNeg x) := yX_at (.iastore, 1, 0, 0, 0, 0, []) rfl
theorem g53_60  : Y53 d Q 60 lv st σ ↔ zldR lv 0 (fun x => Y53 d Q 61 lv (.ref x :: st) σ) := yX_at (.aload_n 0, 1, 0, 0, 0, 0, []) rfl
theorem g53_61  : Y53 d Q 61 lv st σ ↔ zdup st (fun r => Y53 d Q 62 lv r σ) := yX_at (.dup, 1, 0, 0, 0, 0, []) rfl
theorem g53_62 {c : Nat} : Y53 d Q 62 lv (.ref c :: st) σ ↔ zK c = 5 ∧ Y53 d Q 65 lv (zfv σ c 4 :: st) σ := yX_at (.getfield 43, 3, 5, 4, 95, 0, []) rfl
theorem g53_65  : Y53 d Q 65 lv st σ ↔ Y53 d Q 66 lv (.int 1 :: st) σ := yX_at (.iconst 1, 1, 0, 0, 0, 0, []) rfl
theorem g53_66 {x y : Int32} : Y53 d Q 66 lv (.int y :: .int x :: st) σ ↔ Y53 d Q 67 lv (.int (x + y) :: st) σ := yX_at (.iadd, 1, 0, 0, 0, 0, []) rfl
theorem g53_67 {x : Int32} {c : Nat} : Y53 d Q 67 lv (.int x :: .ref c :: st) σ ↔ zK c = 5 ∧ Y53 d Q 70 lv st (zwI σ c 4 x) := yX_at (.putfield 43, 3, 5, 4, 95, 0, []) rfl
theorem g53_70  : Y53 d Q 70 lv [] σ ↔ Q none σ := yX_at (.return_, 1, 0, 0, 0, 0, []) rfl
end G53
def Y54 (d : Nat) (Q : Option Value → zSt → Prop) (pc : Nat) (lv : zLv) (st : List Value) (σ : zSt) : Prop := yX (yE d) ySn zt54 Q pc lv st σ
theorem C54 {d : Nat} {as : List Value} {σ : zSt} {P : Option Value → zSt → Prop} (hl : (lg_sl as).length ≤ 2) (h : Y54 d P 0 (lv_args 0 as) [] σ) : yC (d + 1) 54 as σ P := yC_of (by decide) hl h
section G54
variable {d : Nat} {Q : Option Value → zSt → Prop} {lv : zLv} {st : List Value} {σ : zSt}
theorem g54_0  : Y54 d Q 0 lv st σ ↔ zldR lv 0 (fun x => Y54 d Q 1 lv (.ref x :: st) σ) := yX_at (.aload_n 0, 1, 0, 0, 0, 0, []) rfl
theorem g54_1 {c : Nat} : Y54 d Q 1 lv (.ref c :: st) σ ↔ zK c = 5 ∧ Y54 d Q 4 lv (zfv σ c 11 :: st) σ := yX_at (.getfield 36, 3, 5, 11, 97, 0, []) rfl
theorem g54_4  : Y54 d Q 4 lv st σ ↔ zldR lv 1 (fun x => Y54 d Q 5 lv (.ref x :: st) σ) := yX_at (.aload_n 1, 1, 0, 0, 0, 0, []) rfl
theorem g54_5  : Y54 d Q 5 lv st σ ↔ Y54 d Q 6 lv (.int 0 :: st) σ := yX_at (.iconst 0, 1, 0, 0, 0, 0, []) rfl
theorem g54_6 {j : Int32} {c : Nat} : Y54 d Q 6 lv (.int j :: .ref c :: st) σ ↔ (zK c = 100 ∧ vp_in j (zLn c)) ∧ Y54 d Q 7 lv (.int (σ.1 c j.toNatClampNeg) :: st) σ := yX_at (.iaload, 1, 0, 0, 0, 0, []) rfl
theorem g54_7  : Y54 d Q 7 lv st σ ↔ zdup2 st (fun r => Y54 d Q 8 lv r σ) := yX_at (.dup2, 1, 0, 0, 0, 0, []) rfl
theorem g54_8 {j : Int32} {c : Nat} : Y54 d Q 8 lv (.int j :: .ref c :: st) σ ↔ (zK c = 100 ∧ vp_in j (zLn c)) ∧ Y54 d Q 9 lv (.int (σ.1 c j.toNatClampNeg) :: st) σ := yX_at (.iaload, 1, 0, 0, 0, 0, []) rfl
theorem g54_9  : Y54 d Q 9 lv st σ ↔ Y54 d Q 10 lv (.int 1 :: st) σ := yX_at (.iconst 1, 1, 0, 0, 0, 0, []) rfl
theorem g54_10  : Y54 d Q 10 lv st σ ↔ zldR lv 1 (fun x => Y54 d Q 11 lv (.ref x :: st) σ) := yX_at (.aload_n 1, 1, 0, 0, 0, 0, []) rfl
theorem g54_11  : Y54 d Q 11 lv st σ ↔ Y54 d Q 12 lv (.int 1 :: st) σ := yX_at (.iconst 1, 1, 0, 0, 0, 0, []) rfl
theorem g54_12 {j : Int32} {c : Nat} : Y54 d Q 12 lv (.int j :: .ref c :: st) σ ↔ (zK c = 100 ∧ vp_in j (zLn c)) ∧ Y54 d Q 13 lv (.int (σ.1 c j.toNatClampNeg) :: st) σ := yX_at (.iaload, 1, 0, 0, 0, 0, []) rfl
theorem g54_13 {x y : Int32} : Y54 d Q 13 lv (.int y :: .int x :: st) σ ↔ Y54 d Q 14 lv (.int (x <<< (y &&& 31)) :: st) σ := yX_at (.ishl, 1, 0, 0, 0, 0, []) rfl
theorem g54_14 {x y : Int32} : Y54 d Q 14 lv (.int y :: .int x :: st) σ ↔ Y54 d Q 15 lv (.int (x ||| y) :: st) σ := yX_at (.ior, 1, 0, 0, 0, 0, []) rfl
theorem g54_15 {x j : Int32} {c : Nat} : Y54 d Q 15 lv (.int x :: .int j :: .ref c :: st) σ ↔ (zK c = 100 ∧ vp_in j (zLn c)) ∧ Y54 d Q 16 lv st (zwI σ c j.toNatClampNeg x) := yX_at (.iastore, 1, 0, 0, 0, 0, []) rfl
theorem g54_16  : Y54 d Q 16 lv st σ ↔ zldR lv 0 (fun x => Y54 d Q 17 lv (.ref x :: st) σ) := yX_at (.aload_n 0, 1, 0, 0, 0, 0, []) rfl
theorem g54_17  : Y54 d Q 17 lv st σ ↔ zdup st (fun r => Y54 d Q 18 lv r σ) := yX_at (.dup, 1, 0, 0, 0, 0, []) rfl
theorem g54_18 {c : Nat} : Y54 d Q 18 lv (.ref c :: st) σ ↔ zK c = 5 ∧ Y54 d Q 21 lv (zfv σ c 10 :: st) σ := yX_at (.getfield 46, 3, 5, 10, 96, 0, []) rfl
theorem g54_21  : Y54 d Q 21 lv st σ ↔ Y54 d Q 22 lv (.int 1 :: st) σ := yX_at (.iconst 1, 1, 0, 0, 0, 0, []) rfl
theorem g54_22 {x y : Int32} : Y54 d Q 22 lv (.int y :: .int x :: st) σ ↔ Y54 d Q 23 lv (.int (x + y) :: st) σ := yX_at (.iadd, 1, 0, 0, 0, 0, []) rfl
theorem g54_23 {x : Int32} {c : Nat} : Y54 d Q 23 lv (.int x :: .ref c :: st) σ ↔ zK c = 5 ∧ Y54 d Q 26 lv st (zwI σ c 10 x) := yX_at (.putfield 46, 3, 5, 10, 96, 0, []) rfl
theorem g54_26  : Y54 d Q 26 lv [] σ ↔ Q none σ := yX_at (.return_, 1, 0, 0, 0, 0, []) rfl
end G54
def Y55 (d : Nat) (Q : Option Value → zSt → Prop) (pc : Nat) (lv : zLv) (st : List Value) (σ : zSt) : Prop := yX (yE d) ySn zt55 Q pc lv st σ
theorem C55 {d : Nat} {as : List Value} {σ : zSt} {P : Option Value → zSt → Prop} (hl : (lg_sl as).length ≤ 4) (h : Y55 d P 0 (lv_args 0 as) [] σ) : yC (d + 1) 55 as σ P := yC_of (by decide) hl h
section G55
variable {d : Nat} {Q : Option Value → zSt → Prop} {lv : zLv} {st : List Value} {σ : zSt}
theorem g55_0  : Y55 d Q 0 lv st σ ↔ zldI lv 3 (fun x => Y55 d Q 1 lv (.int x :: st) σ) := yX_at (.iload_n 3, 1, 0, 0, 0, 0, []) rfl
theorem g55_1  : Y55 d Q 1 lv st σ ↔ Y55 d Q 2 lv (.int 1 :: st) σ := yX_at (.iconst 1, 1, 0, 0, 0, 0, []) rfl
theorem g55_2 {x y : Int32} : Y55 d Q 2 lv (.int y :: .int x :: st) σ ↔ (x < y → Y55 d Q 11 lv st σ) ∧ (¬ x < y → Y55 d Q 5 lv st σ) := yX_at (.if_icmp .lt 9, 3, 11, 0, 0, 0, []) rfl
theorem g55_5  : Y55 d Q 5 lv st σ ↔ zldI lv 3 (fun x => Y55 d Q 6 lv (.int x :: st) σ) := yX_at (.iload_n 3, 1, 0, 0, 0, 0, []) rfl
theorem g55_6  : Y55 d Q 6 lv st σ ↔ Y55 d Q 8 lv (.int 8 :: st) σ := yX_at (.bipush 8, 2, 0, 0, 0, 0, []) rfl
theorem g55_8 {x y : Int32} : Y55 d Q 8 lv (.int y :: .int x :: st) σ ↔ (x ≤ y → Y55 d Q 13 lv st σ) ∧ (¬ x ≤ y → Y55 d Q 11 lv st σ) := yX_at (.if_icmp .le 5, 3, 13, 0, 0, 0, []) rfl
theorem g55_11  : Y55 d Q 11 lv st σ ↔ Y55 d Q 12 lv (.int (-1) :: st) σ := by
  rw [show (-1 : Int32) = Int32.ofInt (-1) from by decide]
  exact yX_at (.iconst (-1), 1, 0, 0, 0, 0, []) rfl
theorem g55_12 {x : Int32} : Y55 d Q 12 lv [.int x] σ ↔ Q (some (.int x)) σ := yX_at (.ireturn, 1, 0, 0, 0, 0, []) rfl
theorem g55_13  : Y55 d Q 13 lv st σ ↔ zldR lv 0 (fun x => Y55 d Q 14 lv (.ref x :: st) σ) := yX_at (.aload_n 0, 1, 0, 0, 0, 0, []) rfl
theorem g55_14 {c : Nat} : Y55 d Q 14 lv (.ref c :: st) σ ↔ zK c = 6 ∧ Y55 d Q 17 lv (zfv σ c 0 :: st) σ := yX_at (.getfield 10, 3, 6, 0, 107, 0, []) rfl
theorem g55_17 {c : Nat} : Y55 d Q 17 lv (.ref c :: st) σ ↔ zK c = 4 ∧ Y55 d Q 20 lv (zfv σ c 1 :: st) σ := yX_at (.getfield 62, 3, 4, 1, 108, 0, []) rfl
theorem g55_20  : Y55 d Q 20 lv st σ ↔ zldI lv 3 (fun x => Y55 d Q 21 lv (.int x :: st) σ) := yX_at (.iload_n 3, 1, 0, 0, 0, 0, []) rfl
theorem g55_21 {x y : Int32} : Y55 d Q 21 lv (.int y :: .int x :: st) σ ↔ Y55 d Q 22 lv (.int (x + y) :: st) σ := yX_at (.iadd, 1, 0, 0, 0, 0, []) rfl
theorem g55_22  : Y55 d Q 22 lv st σ ↔ Y55 d Q 25 lv (.int 300 :: st) σ := yX_at (.sipush 300, 3, 0, 0, 0, 0, []) rfl
theorem g55_25 {x y : Int32} : Y55 d Q 25 lv (.int y :: .int x :: st) σ ↔ (x ≤ y → Y55 d Q 31 lv st σ) ∧ (¬ x ≤ y → Y55 d Q 28 lv st σ) := yX_at (.if_icmp .le 6, 3, 31, 0, 0, 0, []) rfl
theorem g55_28  : Y55 d Q 28 lv st σ ↔ Y55 d Q 30 lv (.int (-3) :: st) σ := by
  rw [show (-3 : Int32) = (Int8.ofInt (-3)).toInt32 from by decide]
  exact yX_at (.bipush (-3), 2, 0, 0, 0, 0, []) rfl
theorem g55_30 {x : Int32} : Y55 d Q 30 lv [.int x] σ ↔ Q (some (.int x)) σ := yX_at (.ireturn, 1, 0, 0, 0, 0, []) rfl
theorem g55_31  : Y55 d Q 31 lv st σ ↔ zldR lv 0 (fun x => Y55 d Q 32 lv (.ref x :: st) σ) := yX_at (.aload_n 0, 1, 0, 0, 0, 0, []) rfl
theorem g55_32 {c : Nat} : Y55 d Q 32 lv (.ref c :: st) σ ↔ zK c = 6 ∧ Y55 d Q 35 lv (zfv σ c 0 :: st) σ := yX_at (.getfield 10, 3, 6, 0, 107, 0, []) rfl
theorem g55_35  : Y55 d Q 35 lv st σ ↔ zldJ lv 1 (fun x => Y55 d Q 36 lv (.long x :: st) σ) := yX_at (.lload_n 1, 1, 0, 0, 0, 0, []) rfl
theorem g55_36  : Y55 d Q 36 lv st σ ↔ zldI lv 3 (fun x => Y55 d Q 37 lv (.int x :: st) σ) := yX_at (.iload_n 3, 1, 0, 0, 0, 0, []) rfl
theorem g55_37 {v0 v1 : Value} {c : Nat} : Y55 d Q 37 lv (v1 :: v0 :: .ref c :: st) σ ↔ (zrcv 4 c ∧ zrm st) ∧ ∃ rv σ', yE d 36 [.ref c, v0, v1] σ rv σ' ∧ Y55 d Q 40 lv (rv.toList ++ st) σ' := yX_at (.invokevirtual 66, 3, 36, 2, 109, 0, []) rfl
theorem g55_40  : Y55 d Q 40 lv st σ ↔ zldR lv 0 (fun x => Y55 d Q 41 lv (.ref x :: st) σ) := yX_at (.aload_n 0, 1, 0, 0, 0, 0, []) rfl
theorem g55_41 {c : Nat} : Y55 d Q 41 lv (.ref c :: st) σ ↔ zK c = 6 ∧ Y55 d Q 44 lv (zfv σ c 0 :: st) σ := yX_at (.getfield 10, 3, 6, 0, 107, 0, []) rfl
theorem g55_44 {c : Nat} : Y55 d Q 44 lv (.ref c :: st) σ ↔ zK c = 4 ∧ Y55 d Q 47 lv (zfv σ c 1 :: st) σ := yX_at (.getfield 62, 3, 4, 1, 108, 0, []) rfl
theorem g55_47 {x : Int32} : Y55 d Q 47 lv [.int x] σ ↔ Q (some (.int x)) σ := yX_at (.ireturn, 1, 0, 0, 0, 0, []) rfl
end G55
def Y56 (d : Nat) (Q : Option Value → zSt → Prop) (pc : Nat) (lv : zLv) (st : List Value) (σ : zSt) : Prop := yX (yE d) ySn zt56 Q pc lv st σ
theorem C56 {d : Nat} {as : List Value} {σ : zSt} {P : Option Value → zSt → Prop} (hl : (lg_sl as).length ≤ 2) (h : Y56 d P 0 (lv_args 0 as) [] σ) : yC (d + 1) 56 as σ P := yC_of (by decide) hl h
section G56
variable {d : Nat} {Q : Option Value → zSt → Prop} {lv : zLv} {st : List Value} {σ : zSt}
theorem g56_0  : Y56 d Q 0 lv st σ ↔ zldR lv 0 (fun x => Y56 d Q 1 lv (.ref x :: st) σ) := yX_at (.aload_n 0, 1, 0, 0, 0, 0, []) rfl
theorem g56_1 {c : Nat} : Y56 d Q 1 lv (.ref c :: st) σ ↔ zK c = 6 ∧ Y56 d Q 4 lv (zfv σ c 0 :: st) σ := yX_at (.getfield 10, 3, 6, 0, 107, 0, []) rfl
theorem g56_4 {c : Nat} : Y56 d Q 4 lv (.ref c :: st) σ ↔ zK c = 4 ∧ Y56 d Q 7 lv (zfv σ c 1 :: st) σ := yX_at (.getfield 62, 3, 4, 1, 108, 0, []) rfl
theorem g56_7 {x : Int32} : Y56 d Q 7 lv (.int x :: st) σ ↔ Y56 d Q 8 (zs1 1 (.int x) lv) st σ := yX_at (.istore_n 1, 1, 0, 0, 0, 0, []) rfl
theorem g56_8  : Y56 d Q 8 lv st σ ↔ zldR lv 0 (fun x => Y56 d Q 9 lv (.ref x :: st) σ) := yX_at (.aload_n 0, 1, 0, 0, 0, 0, []) rfl
theorem g56_9 {c : Nat} : Y56 d Q 9 lv (.ref c :: st) σ ↔ zK c = 6 ∧ Y56 d Q 12 lv (zfv σ c 0 :: st) σ := yX_at (.getfield 10, 3, 6, 0, 107, 0, []) rfl
theorem g56_12  : Y56 d Q 12 lv st σ ↔ Y56 d Q 13 lv (.int 0 :: st) σ := yX_at (.iconst 0, 1, 0, 0, 0, 0, []) rfl
theorem g56_13 {x : Int32} {c : Nat} : Y56 d Q 13 lv (.int x :: .ref c :: st) σ ↔ zK c = 4 ∧ Y56 d Q 16 lv st (zwI σ c 1 x) := yX_at (.putfield 62, 3, 4, 1, 108, 0, []) rfl
theorem g56_16  : Y56 d Q 16 lv st σ ↔ zldI lv 1 (fun x => Y56 d Q 17 lv (.int x :: st) σ) := yX_at (.iload_n 1, 1, 0, 0, 0, 0, []) rfl
theorem g56_17 {x : Int32} : Y56 d Q 17 lv [.int x] σ ↔ Q (some (.int x)) σ := yX_at (.ireturn, 1, 0, 0, 0, 0, []) rfl
end G56
def Y57 (d : Nat) (Q : Option Value → zSt → Prop) (pc : Nat) (lv : zLv) (st : List Value) (σ : zSt) : Prop := yX (yE d) ySn zt57 Q pc lv st σ
theorem C57 {d : Nat} {as : List Value} {σ : zSt} {P : Option Value → zSt → Prop} (hl : (lg_sl as).length ≤ 4) (h : Y57 d P 0 (lv_args 0 as) [] σ) : yC (d + 1) 57 as σ P := yC_of (by decide) hl h
section G57
variable {d : Nat} {Q : Option Value → zSt → Prop} {lv : zLv} {st : List Value} {σ : zSt}
theorem g57_0  : Y57 d Q 0 lv st σ ↔ zldR lv 0 (fun x => Y57 d Q 1 lv (.ref x :: st) σ) := yX_at (.aload_n 0, 1, 0, 0, 0, 0, []) rfl
theorem g57_1 {c : Nat} : Y57 d Q 1 lv (.ref c :: st) σ ↔ zK c = 6 ∧ Y57 d Q 4 lv (zfv σ c 0 :: st) σ := yX_at (.getfield 10, 3, 6, 0, 107, 0, []) rfl
theorem g57_4  : Y57 d Q 4 lv st σ ↔ zldR lv 0 (fun x => Y57 d Q 5 lv (.ref x :: st) σ) := yX_at (.aload_n 0, 1, 0, 0, 0, 0, []) rfl
theorem g57_5 {c : Nat} : Y57 d Q 5 lv (.ref c :: st) σ ↔ zK c = 6 ∧ Y57 d Q 8 lv (zfv σ c 2 :: st) σ := yX_at (.getfield 23, 3, 6, 2, 110, 0, []) rfl
theorem g57_8 {v0 : Value} {c : Nat} : Y57 d Q 8 lv (v0 :: .ref c :: st) σ ↔ (zrcv 4 c ∧ zrm st) ∧ ∃ rv σ', yE d 37 [.ref c, v0] σ rv σ' ∧ Y57 d Q 11 lv (rv.toList ++ st) σ' := yX_at (.invokevirtual 70, 3, 37, 1, 111, 0, []) rfl
theorem g57_11 {x : Int32} : Y57 d Q 11 lv (.int x :: st) σ ↔ Y57 d Q 12 (zs1 1 (.int x) lv) st σ := yX_at (.istore_n 1, 1, 0, 0, 0, 0, []) rfl
theorem g57_12  : Y57 d Q 12 lv st σ ↔ zldI lv 1 (fun x => Y57 d Q 13 lv (.int x :: st) σ) := yX_at (.iload_n 1, 1, 0, 0, 0, 0, []) rfl
theorem g57_13 {x : Int32} : Y57 d Q 13 lv (.int x :: st) σ ↔ (0 ≤ x → Y57 d Q 18 lv st σ) ∧ (¬ 0 ≤ x → Y57 d Q 16 lv st σ) := yX_at (.ifCond .ge 5, 3, 18, 0, 0, 0, []) rfl
theorem g57_16  : Y57 d Q 16 lv st σ ↔ zldI lv 1 (fun x => Y57 d Q 17 lv (.int x :: st) σ) := yX_at (.iload_n 1, 1, 0, 0, 0, 0, []) rfl
theorem g57_17 {x : Int32} : Y57 d Q 17 lv [.int x] σ ↔ Q (some (.int x)) σ := yX_at (.ireturn, 1, 0, 0, 0, 0, []) rfl
theorem g57_18  : Y57 d Q 18 lv st σ ↔ zldR lv 0 (fun x => Y57 d Q 19 lv (.ref x :: st) σ) := yX_at (.aload_n 0, 1, 0, 0, 0, 0, []) rfl
theorem g57_19 {c : Nat} : Y57 d Q 19 lv (.ref c :: st) σ ↔ zK c = 6 ∧ Y57 d Q 22 lv (zfv σ c 1 :: st) σ := yX_at (.getfield 19, 3, 6, 1, 112, 0, []) rfl
theorem g57_22 {x : Nat} : Y57 d Q 22 lv (.ref x :: st) σ ↔ Y57 d Q 23 (zs1 2 (.ref x) lv) st σ := yX_at (.astore_n 2, 1, 0, 0, 0, 0, []) rfl
theorem g57_23  : Y57 d Q 23 lv st σ ↔ zldR lv 0 (fun x => Y57 d Q 24 lv (.ref x :: st) σ) := yX_at (.aload_n 0, 1, 0, 0, 0, 0, []) rfl
theorem g57_24  : Y57 d Q 24 lv st σ ↔ zldR lv 0 (fun x => Y57 d Q 25 lv (.ref x :: st) σ) := yX_at (.aload_n 0, 1, 0, 0, 0, 0, []) rfl
theorem g57_25 {c : Nat} : Y57 d Q 25 lv (.ref c :: st) σ ↔ zK c = 6 ∧ Y57 d Q 28 lv (zfv σ c 2 :: st) σ := yX_at (.getfield 23, 3, 6, 2, 110, 0, []) rfl
theorem g57_28 {x c : Nat} : Y57 d Q 28 lv (.ref x :: .ref c :: st) σ ↔ (c = 0 ∧ 6 = 6) ∧ Y57 d Q 31 lv st (zwR σ 1 x) := yX_at (.putfield 19, 3, 6, 1, 112, 0, []) rfl
theorem g57_31  : Y57 d Q 31 lv st σ ↔ zldR lv 0 (fun x => Y57 d Q 32 lv (.ref x :: st) σ) := yX_at (.aload_n 0, 1, 0, 0, 0, 0, []) rfl
theorem g57_32  : Y57 d Q 32 lv st σ ↔ zldR lv 2 (fun x => Y57 d Q 33 lv (.ref x :: st) σ) := yX_at (.aload_n 2, 1, 0, 0, 0, 0, []) rfl
theorem g57_33 {x c : Nat} : Y57 d Q 33 lv (.ref x :: .ref c :: st) σ ↔ (c = 0 ∧ 6 = 6) ∧ Y57 d Q 36 lv st (zwR σ 2 x) := yX_at (.putfield 23, 3, 6, 2, 110, 0, []) rfl
theorem g57_36  : Y57 d Q 36 lv st σ ↔ zldR lv 0 (fun x => Y57 d Q 37 lv (.ref x :: st) σ) := yX_at (.aload_n 0, 1, 0, 0, 0, 0, []) rfl
theorem g57_37 {c : Nat} : Y57 d Q 37 lv (.ref c :: st) σ ↔ zK c = 6 ∧ Y57 d Q 40 lv (zfv σ c 0 :: st) σ := yX_at (.getfield 10, 3, 6, 0, 107, 0, []) rfl
theorem g57_40  : Y57 d Q 40 lv st σ ↔ Y57 d Q 41 lv (.int 0 :: st) σ := yX_at (.iconst 0, 1, 0, 0, 0, 0, []) rfl
theorem g57_41 {x : Int32} {c : Nat} : Y57 d Q 41 lv (.int x :: .ref c :: st) σ ↔ zK c = 4 ∧ Y57 d Q 44 lv st (zwI σ c 1 x) := yX_at (.putfield 62, 3, 4, 1, 108, 0, []) rfl
theorem g57_44  : Y57 d Q 44 lv st σ ↔ zldR lv 0 (fun x => Y57 d Q 45 lv (.ref x :: st) σ) := yX_at (.aload_n 0, 1, 0, 0, 0, 0, []) rfl
theorem g57_45 {c : Nat} : Y57 d Q 45 lv (.ref c :: st) σ ↔ zK c = 6 ∧ Y57 d Q 48 lv (zfv σ c 3 :: st) σ := yX_at (.getfield 29, 3, 6, 3, 113, 0, []) rfl
theorem g57_48 {c : Nat} : Y57 d Q 48 lv (.ref c :: st) σ ↔ (zrcv 2 c ∧ zrm st) ∧ ∃ rv σ', yE d 19 [.ref c] σ rv σ' ∧ Y57 d Q 51 lv (rv.toList ++ st) σ' := yX_at (.invokevirtual 74, 3, 19, 0, 114, 0, []) rfl
theorem g57_51  : Y57 d Q 51 lv st σ ↔ Y57 d Q 52 lv (.int 0 :: st) σ := yX_at (.iconst 0, 1, 0, 0, 0, 0, []) rfl
theorem g57_52 {x : Int32} : Y57 d Q 52 lv (.int x :: st) σ ↔ Y57 d Q 53 (zs1 3 (.int x) lv) st σ := yX_at (.istore_n 3, 1, 0, 0, 0, 0, []) rfl
theorem g57_53  : Y57 d Q 53 lv st σ ↔ zldI lv 3 (fun x => Y57 d Q 54 lv (.int x :: st) σ) := yX_at (.iload_n 3, 1, 0, 0, 0, 0, []) rfl
theorem g57_54  : Y57 d Q 54 lv st σ ↔ Y57 d Q 55 lv (.int 2 :: st) σ := yX_at (.iconst 2, 1, 0, 0, 0, 0, []) rfl
theorem g57_55 {x y : Int32} : Y57 d Q 55 lv (.int y :: .int x :: st) σ ↔ (y ≤ x → Y57 d Q 71 lv st σ) ∧ (¬ y ≤ x → Y57 d Q 58 lv st σ) := yX_at (.if_icmp .ge 16, 3, 71, 0, 0, 0, []) rfl
theorem g57_58  : Y57 d Q 58 lv st σ ↔ zldR lv 0 (fun x => Y57 d Q 59 lv (.ref x :: st) σ) := yX_at (.aload_n 0, 1, 0, 0, 0, 0, []) rfl
theorem g57_59 {c : Nat} : Y57 d Q 59 lv (.ref c :: st) σ ↔ zK c = 6 ∧ Y57 d Q 62 lv (zfv σ c 5 :: st) σ := yX_at (.getfield 37, 3, 6, 5, 115, 0, []) rfl
theorem g57_62  : Y57 d Q 62 lv st σ ↔ zldI lv 3 (fun x => Y57 d Q 63 lv (.int x :: st) σ) := yX_at (.iload_n 3, 1, 0, 0, 0, 0, []) rfl
theorem g57_63  : Y57 d Q 63 lv st σ ↔ Y57 d Q 64 lv (.int 0 :: st) σ := yX_at (.iconst 0, 1, 0, 0, 0, 0, []) rfl
theorem g57_64 {x j : Int32} {c : Nat} : Y57 d Q 64 lv (.int x :: .int j :: .ref c :: st) σ ↔ (zK c = 102 ∧ vp_in j (zLn c)) ∧ Y57 d Q 65 lv st (zwI σ c j.toNatClampNeg (vp_nar .boolean x)) := yX_at (.bastore, 1, 1, 0, 0, 0, []) rfl
theorem g57_65  : Y57 d Q 65 lv st σ ↔ zldI lv 3 (fun x => Y57 d Q 68 (zs1 3 (.int (x + 1)) lv) st σ) := yX_at (.iinc 3 1, 3, 0, 0, 0, 0, []) rfl
theorem g57_68  : Y57 d Q 68 lv st σ ↔ Y57 d Q 53 lv st σ := yX_at (.goto (-15), 3, 53, 0, 0, 0, []) rfl
theorem g57_71  : Y57 d Q 71 lv st σ ↔ zldI lv 1 (fun x => Y57 d Q 72 lv (.int x :: st) σ) := yX_at (.iload_n 1, 1, 0, 0, 0, 0, []) rfl
theorem g57_72 {x : Int32} : Y57 d Q 72 lv [.int x] σ ↔ Q (some (.int x)) σ := yX_at (.ireturn, 1, 0, 0, 0, 0, []) rfl
end G57
def Y58 (d : Nat) (Q : Option Value → zSt → Prop) (pc : Nat) (lv : zLv) (st : List Value) (σ : zSt) : Prop := yX (yE d) ySn zt58 Q pc lv st σ
theorem C58 {d : Nat} {as : List Value} {σ : zSt} {P : Option Value → zSt → Prop} (hl : (lg_sl as).length ≤ 3) (h : Y58 d P 0 (lv_args 0 as) [] σ) : yC (d + 1) 58 as σ P := yC_of (by decide) hl h
section G58
variable {d : Nat} {Q : Option Value → zSt → Prop} {lv : zLv} {st : List Value} {σ : zSt}
theorem g58_0  : Y58 d Q 0 lv st σ ↔ zldR lv 0 (fun x => Y58 d Q 1 lv (.ref x :: st) σ) := yX_at (.aload_n 0, 1, 0, 0, 0, 0, []) rfl
theorem g58_1 {c : Nat} : Y58 d Q 1 lv (.ref c :: st) σ ↔ zK c = 6 ∧ Y58 d Q 4 lv (zfv σ c 1 :: st) σ := yX_at (.getfield 19, 3, 6, 1, 112, 0, []) rfl
theorem g58_4  : Y58 d Q 4 lv st σ ↔ zldI lv 1 (fun x => Y58 d Q 5 lv (.int x :: st) σ) := yX_at (.iload_n 1, 1, 0, 0, 0, 0, []) rfl
theorem g58_5 {v0 : Value} {c : Nat} : Y58 d Q 5 lv (v0 :: .ref c :: st) σ ↔ (zrcv 5 c ∧ zrm st) ∧ ∃ rv σ', yE d 50 [.ref c, v0] σ rv σ' ∧ Y58 d Q 8 lv (rv.toList ++ st) σ' := yX_at (.invokevirtual 77, 3, 50, 1, 116, 0, []) rfl
theorem g58_8 {x : Int32} : Y58 d Q 8 lv (.int x :: st) σ ↔ (¬ x = 0 → Y58 d Q 13 lv st σ) ∧ (x = 0 → Y58 d Q 11 lv st σ) := yX_at (.ifCond .ne 5, 3, 13, 0, 0, 0, []) rfl
theorem g58_11  : Y58 d Q 11 lv st σ ↔ Y58 d Q 12 lv (.int (-1) :: st) σ := by
  rw [show (-1 : Int32) = Int32.ofInt (-1) from by decide]
  exact yX_at (.iconst (-1), 1, 0, 0, 0, 0, []) rfl
theorem g58_12 {x : Int32} : Y58 d Q 12 lv [.int x] σ ↔ Q (some (.int x)) σ := yX_at (.ireturn, 1, 0, 0, 0, 0, []) rfl
theorem g58_13  : Y58 d Q 13 lv st σ ↔ zldI lv 2 (fun x => Y58 d Q 14 lv (.int x :: st) σ) := yX_at (.iload_n 2, 1, 0, 0, 0, 0, []) rfl
theorem g58_14 {x : Int32} : Y58 d Q 14 lv (.int x :: st) σ ↔ (x = 0 → Y58 d Q 44 lv st σ) ∧ (¬ x = 0 → ((x = 1 → Y58 d Q 54 lv st σ) ∧ (¬ x = 1 → ((x = 2 → Y58 d Q 64 lv st σ) ∧ (¬ x = 2 → ((x = 3 → Y58 d Q 74 lv st σ) ∧ (¬ x = 3 → (Y58 d Q 84 lv st σ)))))))) := yX_at (.tableswitch 70 0 3 #[30, 40, 50, 60], 30, 84, 0, 0, 0, [(0, 44), (1, 54), (2, 64), (3, 74)]) rfl
theorem g58_44  : Y58 d Q 44 lv st σ ↔ zldR lv 0 (fun x => Y58 d Q 45 lv (.ref x :: st) σ) := yX_at (.aload_n 0, 1, 0, 0, 0, 0, []) rfl
theorem g58_45 {c : Nat} : Y58 d Q 45 lv (.ref c :: st) σ ↔ zK c = 6 ∧ Y58 d Q 48 lv (zfv σ c 1 :: st) σ := yX_at (.getfield 19, 3, 6, 1, 112, 0, []) rfl
theorem g58_48 {c : Nat} : Y58 d Q 48 lv (.ref c :: st) σ ↔ zK c = 5 ∧ Y58 d Q 51 lv (zfv σ c 1 :: st) σ := yX_at (.getfield 81, 3, 5, 1, 117, 0, []) rfl
theorem g58_51  : Y58 d Q 51 lv st σ ↔ zldI lv 1 (fun x => Y58 d Q 52 lv (.int x :: st) σ) := yX_at (.iload_n 1, 1, 0, 0, 0, 0, []) rfl
theorem g58_52 {j : Int32} {c : Nat} : Y58 d Q 52 lv (.int j :: .ref c :: st) σ ↔ (zK c = 100 ∧ vp_in j (zLn c)) ∧ Y58 d Q 53 lv (.int (σ.1 c j.toNatClampNeg) :: st) σ := yX_at (.iaload, 1, 0, 0, 0, 0, []) rfl
theorem g58_53 {x : Int32} : Y58 d Q 53 lv [.int x] σ ↔ Q (some (.int x)) σ := yX_at (.ireturn, 1, 0, 0, 0, 0, []) rfl
theorem g58_54  : Y58 d Q 54 lv st σ ↔ zldR lv 0 (fun x => Y58 d Q 55 lv (.ref x :: st) σ) := yX_at (.aload_n 0, 1, 0, 0, 0, 0, []) rfl
theorem g58_55 {c : Nat} : Y58 d Q 55 lv (.ref c :: st) σ ↔ zK c = 6 ∧ Y58 d Q 58 lv (zfv σ c 1 :: st) σ := yX_at (.getfield 19, 3, 6, 1, 112, 0, []) rfl
theorem g58_58 {c : Nat} : Y58 d Q 58 lv (.ref c :: st) σ ↔ zK c = 5 ∧ Y58 d Q 61 lv (zfv σ c 2 :: st) σ := yX_at (.getfield 85, 3, 5, 2, 118, 0, []) rfl
theorem g58_61  : Y58 d Q 61 lv st σ ↔ zldI lv 1 (fun x => Y58 d Q 62 lv (.int x :: st) σ) := yX_at (.iload_n 1, 1, 0, 0, 0, 0, []) rfl
theorem g58_62 {j : Int32} {c : Nat} : Y58 d Q 62 lv (.int j :: .ref c :: st) σ ↔ (zK c = 100 ∧ vp_in j (zLn c)) ∧ Y58 d Q 63 lv (.int (σ.1 c j.toNatClampNeg) :: st) σ := yX_at (.iaload, 1, 0, 0, 0, 0, []) rfl
theorem g58_63 {x : Int32} : Y58 d Q 63 lv [.int x] σ ↔ Q (some (.int x)) σ := yX_at (.ireturn, 1, 0, 0, 0, 0, []) rfl
theorem g58_64  : Y58 d Q 64 lv st σ ↔ zldR lv 0 (fun x => Y58 d Q 65 lv (.ref x :: st) σ) := yX_at (.aload_n 0, 1, 0, 0, 0, 0, []) rfl
theorem g58_65 {c : Nat} : Y58 d Q 65 lv (.ref c :: st) σ ↔ zK c = 6 ∧ Y58 d Q 68 lv (zfv σ c 1 :: st) σ := yX_at (.getfield 19, 3, 6, 1, 112, 0, []) rfl
theorem g58_68 {c : Nat} : Y58 d Q 68 lv (.ref c :: st) σ ↔ zK c = 5 ∧ Y58 d Q 71 lv (zfv σ c 3 :: st) σ := yX_at (.getfield 88, 3, 5, 3, 119, 0, []) rfl
theorem g58_71  : Y58 d Q 71 lv st σ ↔ zldI lv 1 (fun x => Y58 d Q 72 lv (.int x :: st) σ) := yX_at (.iload_n 1, 1, 0, 0, 0, 0, []) rfl
theorem g58_72 {j : Int32} {c : Nat} : Y58 d Q 72 lv (.int j :: .ref c :: st) σ ↔ (zK c = 100 ∧ vp_in j (zLn c)) ∧ Y58 d Q 73 lv (.int (σ.1 c j.toNatClampNeg) :: st) σ := yX_at (.iaload, 1, 0, 0, 0, 0, []) rfl
theorem g58_73 {x : Int32} : Y58 d Q 73 lv [.int x] σ ↔ Q (some (.int x)) σ := yX_at (.ireturn, 1, 0, 0, 0, 0, []) rfl
theorem g58_74  : Y58 d Q 74 lv st σ ↔ zldR lv 0 (fun x => Y58 d Q 75 lv (.ref x :: st) σ) := yX_at (.aload_n 0, 1, 0, 0, 0, 0, []) rfl
theorem g58_75 {c : Nat} : Y58 d Q 75 lv (.ref c :: st) σ ↔ zK c = 6 ∧ Y58 d Q 78 lv (zfv σ c 3 :: st) σ := yX_at (.getfield 29, 3, 6, 3, 113, 0, []) rfl
theorem g58_78 {c : Nat} : Y58 d Q 78 lv (.ref c :: st) σ ↔ zK c = 2 ∧ Y58 d Q 81 lv (zfv σ c 6 :: st) σ := yX_at (.getfield 91, 3, 2, 6, 120, 0, []) rfl
theorem g58_81  : Y58 d Q 81 lv st σ ↔ zldI lv 1 (fun x => Y58 d Q 82 lv (.int x :: st) σ) := yX_at (.iload_n 1, 1, 0, 0, 0, 0, []) rfl
theorem g58_82 {j : Int32} {c : Nat} : Y58 d Q 82 lv (.int j :: .ref c :: st) σ ↔ (zK c = 100 ∧ vp_in j (zLn c)) ∧ Y58 d Q 83 lv (.int (σ.1 c j.toNatClampNeg) :: st) σ := yX_at (.iaload, 1, 0, 0, 0, 0, []) rfl
theorem g58_83 {x : Int32} : Y58 d Q 83 lv [.int x] σ ↔ Q (some (.int x)) σ := yX_at (.ireturn, 1, 0, 0, 0, 0, []) rfl
theorem g58_84  : Y58 d Q 84 lv st σ ↔ Y58 d Q 85 lv (.int (-1) :: st) σ := by
  rw [show (-1 : Int32) = Int32.ofInt (-1) from by decide]
  exact yX_at (.iconst (-1), 1, 0, 0, 0, 0, []) rfl
theorem g58_85 {x : Int32} : Y58 d Q 85 lv [.int x] σ ↔ Q (some (.int x)) σ := yX_at (.ireturn, 1, 0, 0, 0, 0, []) rfl
end G58
def Y59 (d : Nat) (Q : Option Value → zSt → Prop) (pc : Nat) (lv : zLv) (st : List Value) (σ : zSt) : Prop := yX (yE d) ySn zt59 Q pc lv st σ
theorem C59 {d : Nat} {as : List Value} {σ : zSt} {P : Option Value → zSt → Prop} (hl : (lg_sl as).length ≤ 3) (h : Y59 d P 0 (lv_args 0 as) [] σ) : yC (d + 1) 59 as σ P := yC_of (by decide) hl h
section G59
variable {d : Nat} {Q : Option Value → zSt → Prop} {lv : zLv} {st : List Value} {σ : zSt}
theorem g59_0  : Y59 d Q 0 lv st σ ↔ zldR lv 0 (fun x => Y59 d Q 1 lv (.ref x :: st) σ) := yX_at (.aload_n 0, 1, 0, 0, 0, 0, []) rfl
theorem g59_1 {c : Nat} : Y59 d Q 1 lv (.ref c :: st) σ ↔ zK c = 6 ∧ Y59 d Q 4 lv (zfv σ c 1 :: st) σ := yX_at (.getfield 19, 3, 6, 1, 112, 0, []) rfl
theorem g59_4  : Y59 d Q 4 lv st σ ↔ zldI lv 1 (fun x => Y59 d Q 5 lv (.int x :: st) σ) := yX_at (.iload_n 1, 1, 0, 0, 0, 0, []) rfl
theorem g59_5 {v0 : Value} {c : Nat} : Y59 d Q 5 lv (v0 :: .ref c :: st) σ ↔ (zrcv 5 c ∧ zrm st) ∧ ∃ rv σ', yE d 51 [.ref c, v0] σ rv σ' ∧ Y59 d Q 8 lv (rv.toList ++ st) σ' := yX_at (.invokevirtual 94, 3, 51, 1, 121, 0, []) rfl
theorem g59_8 {x : Int32} : Y59 d Q 8 lv (.int x :: st) σ ↔ (¬ x = 0 → Y59 d Q 13 lv st σ) ∧ (x = 0 → Y59 d Q 11 lv st σ) := yX_at (.ifCond .ne 5, 3, 13, 0, 0, 0, []) rfl
theorem g59_11  : Y59 d Q 11 lv st σ ↔ Y59 d Q 12 lv (.int (-1) :: st) σ := by
  rw [show (-1 : Int32) = Int32.ofInt (-1) from by decide]
  exact yX_at (.iconst (-1), 1, 0, 0, 0, 0, []) rfl
theorem g59_12 {x : Int32} : Y59 d Q 12 lv [.int x] σ ↔ Q (some (.int x)) σ := yX_at (.ireturn, 1, 0, 0, 0, 0, []) rfl
theorem g59_13  : Y59 d Q 13 lv st σ ↔ zldI lv 2 (fun x => Y59 d Q 14 lv (.int x :: st) σ) := yX_at (.iload_n 2, 1, 0, 0, 0, 0, []) rfl
theorem g59_14 {x : Int32} : Y59 d Q 14 lv (.int x :: st) σ ↔ (x = 0 → Y59 d Q 60 lv st σ) ∧ (¬ x = 0 → ((x = 1 → Y59 d Q 70 lv st σ) ∧ (¬ x = 1 → ((x = 2 → Y59 d Q 80 lv st σ) ∧ (¬ x = 2 → ((x = 3 → Y59 d Q 90 lv st σ) ∧ (¬ x = 3 → ((x = 4 → Y59 d Q 100 lv st σ) ∧ (¬ x = 4 → ((x = 5 → Y59 d Q 110 lv st σ) ∧ (¬ x = 5 → ((x = 6 → Y59 d Q 120 lv st σ) ∧ (¬ x = 6 → ((x = 7 → Y59 d Q 130 lv st σ) ∧ (¬ x = 7 → (Y59 d Q 158 lv st σ)))))))))))))))) := yX_at (.tableswitch 144 0 7 #[46, 56, 66, 76, 86, 96, 106, 116], 46, 158, 0, 0, 0, [(0, 60), (1, 70), (2, 80), (3, 90), (4, 100), (5, 110), (6, 120), (7, 130)]) rfl
theorem g59_60  : Y59 d Q 60 lv st σ ↔ zldR lv 0 (fun x => Y59 d Q 61 lv (.ref x :: st) σ) := yX_at (.aload_n 0, 1, 0, 0, 0, 0, []) rfl
theorem g59_61 {c : Nat} : Y59 d Q 61 lv (.ref c :: st) σ ↔ zK c = 6 ∧ Y59 d Q 64 lv (zfv σ c 1 :: st) σ := yX_at (.getfield 19, 3, 6, 1, 112, 0, []) rfl
theorem g59_64 {c : Nat} : Y59 d Q 64 lv (.ref c :: st) σ ↔ zK c = 5 ∧ Y59 d Q 67 lv (zfv σ c 5 :: st) σ := yX_at (.getfield 97, 3, 5, 5, 122, 0, []) rfl
theorem g59_67  : Y59 d Q 67 lv st σ ↔ zldI lv 1 (fun x => Y59 d Q 68 lv (.int x :: st) σ) := yX_at (.iload_n 1, 1, 0, 0, 0, 0, []) rfl
theorem g59_68 {j : Int32} {c : Nat} : Y59 d Q 68 lv (.int j :: .ref c :: st) σ ↔ (zK c = 100 ∧ vp_in j (zLn c)) ∧ Y59 d Q 69 lv (.int (σ.1 c j.toNatClampNeg) :: st) σ := yX_at (.iaload, 1, 0, 0, 0, 0, []) rfl
theorem g59_69 {x : Int32} : Y59 d Q 69 lv [.int x] σ ↔ Q (some (.int x)) σ := yX_at (.ireturn, 1, 0, 0, 0, 0, []) rfl
theorem g59_70  : Y59 d Q 70 lv st σ ↔ zldR lv 0 (fun x => Y59 d Q 71 lv (.ref x :: st) σ) := yX_at (.aload_n 0, 1, 0, 0, 0, 0, []) rfl
theorem g59_71 {c : Nat} : Y59 d Q 71 lv (.ref c :: st) σ ↔ zK c = 6 ∧ Y59 d Q 74 lv (zfv σ c 1 :: st) σ := yX_at (.getfield 19, 3, 6, 1, 112, 0, []) rfl
theorem g59_74 {c : Nat} : Y59 d Q 74 lv (.ref c :: st) σ ↔ zK c = 5 ∧ Y59 d Q 77 lv (zfv σ c 6 :: st) σ := yX_at (.getfield 100, 3, 5, 6, 123, 0, []) rfl
theorem g59_77  : Y59 d Q 77 lv st σ ↔ zldI lv 1 (fun x => Y59 d Q 78 lv (.int x :: st) σ) := yX_at (.iload_n 1, 1, 0, 0, 0, 0, []) rfl
theorem g59_78 {j : Int32} {c : Nat} : Y59 d Q 78 lv (.int j :: .ref c :: st) σ ↔ (zK c = 100 ∧ vp_in j (zLn c)) ∧ Y59 d Q 79 lv (.int (σ.1 c j.toNatClampNeg) :: st) σ := yX_at (.iaload, 1, 0, 0, 0, 0, []) rfl
theorem g59_79 {x : Int32} : Y59 d Q 79 lv [.int x] σ ↔ Q (some (.int x)) σ := yX_at (.ireturn, 1, 0, 0, 0, 0, []) rfl
theorem g59_80  : Y59 d Q 80 lv st σ ↔ zldR lv 0 (fun x => Y59 d Q 81 lv (.ref x :: st) σ) := yX_at (.aload_n 0, 1, 0, 0, 0, 0, []) rfl
theorem g59_81 {c : Nat} : Y59 d Q 81 lv (.ref c :: st) σ ↔ zK c = 6 ∧ Y59 d Q 84 lv (zfv σ c 1 :: st) σ := yX_at (.getfield 19, 3, 6, 1, 112, 0, []) rfl
theorem g59_84 {c : Nat} : Y59 d Q 84 lv (.ref c :: st) σ ↔ zK c = 5 ∧ Y59 d Q 87 lv (zfv σ c 7 :: st) σ := yX_at (.getfield 103, 3, 5, 7, 124, 0, []) rfl
theorem g59_87  : Y59 d Q 87 lv st σ ↔ zldI lv 1 (fun x => Y59 d Q 88 lv (.int x :: st) σ) := yX_at (.iload_n 1, 1, 0, 0, 0, 0, []) rfl
theorem g59_88 {j : Int32} {c : Nat} : Y59 d Q 88 lv (.int j :: .ref c :: st) σ ↔ (zK c = 100 ∧ vp_in j (zLn c)) ∧ Y59 d Q 89 lv (.int (σ.1 c j.toNatClampNeg) :: st) σ := yX_at (.iaload, 1, 0, 0, 0, 0, []) rfl
theorem g59_89 {x : Int32} : Y59 d Q 89 lv [.int x] σ ↔ Q (some (.int x)) σ := yX_at (.ireturn, 1, 0, 0, 0, 0, []) rfl
theorem g59_90  : Y59 d Q 90 lv st σ ↔ zldR lv 0 (fun x => Y59 d Q 91 lv (.ref x :: st) σ) := yX_at (.aload_n 0, 1, 0, 0, 0, 0, []) rfl
theorem g59_91 {c : Nat} : Y59 d Q 91 lv (.ref c :: st) σ ↔ zK c = 6 ∧ Y59 d Q 94 lv (zfv σ c 1 :: st) σ := yX_at (.getfield 19, 3, 6, 1, 112, 0, []) rfl
theorem g59_94 {c : Nat} : Y59 d Q 94 lv (.ref c :: st) σ ↔ zK c = 5 ∧ Y59 d Q 97 lv (zfv σ c 8 :: st) σ := yX_at (.getfield 106, 3, 5, 8, 125, 0, []) rfl
theorem g59_97  : Y59 d Q 97 lv st σ ↔ zldI lv 1 (fun x => Y59 d Q 98 lv (.int x :: st) σ) := yX_at (.iload_n 1, 1, 0, 0, 0, 0, []) rfl
theorem g59_98 {j : Int32} {c : Nat} : Y59 d Q 98 lv (.int j :: .ref c :: st) σ ↔ (zK c = 100 ∧ vp_in j (zLn c)) ∧ Y59 d Q 99 lv (.int (σ.1 c j.toNatClampNeg) :: st) σ := yX_at (.iaload, 1, 0, 0, 0, 0, []) rfl
theorem g59_99 {x : Int32} : Y59 d Q 99 lv [.int x] σ ↔ Q (some (.int x)) σ := yX_at (.ireturn, 1, 0, 0, 0, 0, []) rfl
theorem g59_100  : Y59 d Q 100 lv st σ ↔ zldR lv 0 (fun x => Y59 d Q 101 lv (.ref x :: st) σ) := yX_at (.aload_n 0, 1, 0, 0, 0, 0, []) rfl
theorem g59_101 {c : Nat} : Y59 d Q 101 lv (.ref c :: st) σ ↔ zK c = 6 ∧ Y59 d Q 104 lv (zfv σ c 1 :: st) σ := yX_at (.getfield 19, 3, 6, 1, 112, 0, []) rfl
theorem g59_104 {c : Nat} : Y59 d Q 104 lv (.ref c :: st) σ ↔ zK c = 5 ∧ Y59 d Q 107 lv (zfv σ c 9 :: st) σ := yX_at (.getfield 109, 3, 5, 9, 126, 0, []) rfl
theorem g59_107  : Y59 d Q 107 lv st σ ↔ zldI lv 1 (fun x => Y59 d Q 108 lv (.int x :: st) σ) := yX_at (.iload_n 1, 1, 0, 0, 0, 0, []) rfl
theorem g59_108 {j : Int32} {c : Nat} : Y59 d Q 108 lv (.int j :: .ref c :: st) σ ↔ (zK c = 100 ∧ vp_in j (zLn c)) ∧ Y59 d Q 109 lv (.int (σ.1 c j.toNatClampNeg) :: st) σ := yX_at (.iaload, 1, 0, 0, 0, 0, []) rfl
theorem g59_109 {x : Int32} : Y59 d Q 109 lv [.int x] σ ↔ Q (some (.int x)) σ := yX_at (.ireturn, 1, 0, 0, 0, 0, []) rfl
theorem g59_110  : Y59 d Q 110 lv st σ ↔ zldR lv 0 (fun x => Y59 d Q 111 lv (.ref x :: st) σ) := yX_at (.aload_n 0, 1, 0, 0, 0, 0, []) rfl
theorem g59_111 {c : Nat} : Y59 d Q 111 lv (.ref c :: st) σ ↔ zK c = 6 ∧ Y59 d Q 114 lv (zfv σ c 3 :: st) σ := yX_at (.getfield 29, 3, 6, 3, 113, 0, []) rfl
theorem g59_114 {c : Nat} : Y59 d Q 114 lv (.ref c :: st) σ ↔ zK c = 2 ∧ Y59 d Q 117 lv (zfv σ c 3 :: st) σ := yX_at (.getfield 112, 3, 2, 3, 127, 0, []) rfl
theorem g59_117  : Y59 d Q 117 lv st σ ↔ zldI lv 1 (fun x => Y59 d Q 118 lv (.int x :: st) σ) := yX_at (.iload_n 1, 1, 0, 0, 0, 0, []) rfl
theorem g59_118 {j : Int32} {c : Nat} : Y59 d Q 118 lv (.int j :: .ref c :: st) σ ↔ (zK c = 100 ∧ vp_in j (zLn c)) ∧ Y59 d Q 119 lv (.int (σ.1 c j.toNatClampNeg) :: st) σ := yX_at (.iaload, 1, 0, 0, 0, 0, []) rfl
theorem g59_119 {x : Int32} : Y59 d Q 119 lv [.int x] σ ↔ Q (some (.int x)) σ := yX_at (.ireturn, 1, 0, 0, 0, 0, []) rfl
theorem g59_120  : Y59 d Q 120 lv st σ ↔ zldR lv 0 (fun x => Y59 d Q 121 lv (.ref x :: st) σ) := yX_at (.aload_n 0, 1, 0, 0, 0, 0, []) rfl
theorem g59_121 {c : Nat} : Y59 d Q 121 lv (.ref c :: st) σ ↔ zK c = 6 ∧ Y59 d Q 124 lv (zfv σ c 3 :: st) σ := yX_at (.getfield 29, 3, 6, 3, 113, 0, []) rfl
theorem g59_124 {c : Nat} : Y59 d Q 124 lv (.ref c :: st) σ ↔ zK c = 2 ∧ Y59 d Q 127 lv (zfv σ c 4 :: st) σ := yX_at (.getfield 115, 3, 2, 4, 128, 0, []) rfl
theorem g59_127  : Y59 d Q 127 lv st σ ↔ zldI lv 1 (fun x => Y59 d Q 128 lv (.int x :: st) σ) := yX_at (.iload_n 1, 1, 0, 0, 0, 0, []) rfl
theorem g59_128 {j : Int32} {c : Nat} : Y59 d Q 128 lv (.int j :: .ref c :: st) σ ↔ (zK c = 100 ∧ vp_in j (zLn c)) ∧ Y59 d Q 129 lv (.int (σ.1 c j.toNatClampNeg) :: st) σ := yX_at (.iaload, 1, 0, 0, 0, 0, []) rfl
theorem g59_129 {x : Int32} : Y59 d Q 129 lv [.int x] σ ↔ Q (some (.int x)) σ := yX_at (.ireturn, 1, 0, 0, 0, 0, []) rfl
theorem g59_130  : Y59 d Q 130 lv st σ ↔ zldR lv 0 (fun x => Y59 d Q 131 lv (.ref x :: st) σ) := yX_at (.aload_n 0, 1, 0, 0, 0, 0, []) rfl
theorem g59_131 {c : Nat} : Y59 d Q 131 lv (.ref c :: st) σ ↔ zK c = 6 ∧ Y59 d Q 134 lv (zfv σ c 3 :: st) σ := yX_at (.getfield 29, 3, 6, 3, 113, 0, []) rfl
theorem g59_134 {c : Nat} : Y59 d Q 134 lv (.ref c :: st) σ ↔ zK c = 2 ∧ Y59 d Q 137 lv (zfv σ c 3 :: st) σ := yX_at (.getfield 112, 3, 2, 3, 127, 0, []) rfl
theorem g59_137  : Y59 d Q 137 lv st σ ↔ zldI lv 1 (fun x => Y59 d Q 138 lv (.int x :: st) σ) := yX_at (.iload_n 1, 1, 0, 0, 0, 0, []) rfl
theorem g59_138 {j : Int32} {c : Nat} : Y59 d Q 138 lv (.int j :: .ref c :: st) σ ↔ (zK c = 100 ∧ vp_in j (zLn c)) ∧ Y59 d Q 139 lv (.int (σ.1 c j.toNatClampNeg) :: st) σ := yX_at (.iaload, 1, 0, 0, 0, 0, []) rfl
theorem g59_139  : Y59 d Q 139 lv st σ ↔ Y59 d Q 140 lv (.int 1 :: st) σ := yX_at (.iconst 1, 1, 0, 0, 0, 0, []) rfl
theorem g59_140 {x y : Int32} : Y59 d Q 140 lv (.int y :: .int x :: st) σ ↔ (¬ x = y → Y59 d Q 155 lv st σ) ∧ (x = y → Y59 d Q 143 lv st σ) := yX_at (.if_icmp .ne 15, 3, 155, 0, 0, 0, []) rfl
theorem g59_143  : Y59 d Q 143 lv st σ ↔ zldR lv 0 (fun x => Y59 d Q 144 lv (.ref x :: st) σ) := yX_at (.aload_n 0, 1, 0, 0, 0, 0, []) rfl
theorem g59_144 {c : Nat} : Y59 d Q 144 lv (.ref c :: st) σ ↔ zK c = 6 ∧ Y59 d Q 147 lv (zfv σ c 3 :: st) σ := yX_at (.getfield 29, 3, 6, 3, 113, 0, []) rfl
theorem g59_147 {c : Nat} : Y59 d Q 147 lv (.ref c :: st) σ ↔ zK c = 2 ∧ Y59 d Q 150 lv (zfv σ c 5 :: st) σ := yX_at (.getfield 118, 3, 2, 5, 129, 0, []) rfl
theorem g59_150  : Y59 d Q 150 lv st σ ↔ zldI lv 1 (fun x => Y59 d Q 151 lv (.int x :: st) σ) := yX_at (.iload_n 1, 1, 0, 0, 0, 0, []) rfl
theorem g59_151 {j : Int32} {c : Nat} : Y59 d Q 151 lv (.int j :: .ref c :: st) σ ↔ (zK c = 100 ∧ vp_in j (zLn c)) ∧ Y59 d Q 152 lv (.int (σ.1 c j.toNatClampNeg) :: st) σ := yX_at (.iaload, 1, 0, 0, 0, 0, []) rfl
theorem g59_152  : Y59 d Q 152 lv st σ ↔ Y59 d Q 157 lv st σ := yX_at (.goto 5, 3, 157, 0, 0, 0, []) rfl
theorem g59_155  : Y59 d Q 155 lv st σ ↔ Y59 d Q 157 lv (.int (-9) :: st) σ := by
  rw [show (-9 : Int32) = (Int8.ofInt (-9)).toInt32 from by decide]
  exact yX_at (.bipush (-9), 2, 0, 0, 0, 0, []) rfl
theorem g59_157 {x : Int32} : Y59 d Q 157 lv [.int x] σ ↔ Q (some (.int x)) σ := yX_at (.ireturn, 1, 0, 0, 0, 0, []) rfl
theorem g59_158  : Y59 d Q 158 lv st σ ↔ Y59 d Q 159 lv (.int (-1) :: st) σ := by
  rw [show (-1 : Int32) = Int32.ofInt (-1) from by decide]
  exact yX_at (.iconst (-1), 1, 0, 0, 0, 0, []) rfl
theorem g59_159 {x : Int32} : Y59 d Q 159 lv [.int x] σ ↔ Q (some (.int x)) σ := yX_at (.ireturn, 1, 0, 0, 0, 0, []) rfl
end G59
