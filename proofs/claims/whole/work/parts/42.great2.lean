/-! ===== a great promise: class and model ===== -/
def gans (w : Nat) (s : aG) : Int32 := if 0 < s.1 then -9 else if w = 0 then nI s.2.1 else nI s.2.2
section
variable {τ : aT} {ν : aN} {σ : zSt} {S : aS}
theorem gans_0 {w : Nat} {s : aG} (h : 0 < s.1) : gans w s = -9 := if_pos h
theorem gans_1 {w : Nat} {s : aG} (h : ¬ 0 < s.1) (hw : w = 0) : gans w s = nI s.2.1 := by unfold gans; rw [if_neg h, if_pos hw]
theorem gans_2 {w : Nat} {s : aG} (h : ¬ 0 < s.1) (hw : ¬ w = 0) : gans w s = nI s.2.2 := by unfold gans; rw [if_neg h, if_neg hw]
theorem ct_full {p : Nat → Bool} {n : Nat} (h : fb_ct p n = n) : ∀ k, k < n → p k = true := fb_ct_all.mp h
theorem ct_some {p : Nat → Bool} {n : Nat} (h : fb_ct p n < n) : ∃ k, k < n ∧ p k = false := by
  by_cases z : ∃ k, k < n ∧ p k = false
  · exact z
  · refine absurd (fb_ct_all.mpr fun k hk => ?_) (Nat.ne_of_lt h)
    cases e : p k with
    | true => rfl
    | false => exact absurd ⟨k, hk, e⟩ z
theorem bmk_eq {P Q : Nat → Bool} {n : Nat} (h : ∀ i, i < n → P i = Q i) : bmk P n = bmk Q n := Nat.eq_of_testBit_eq fun i => by
  rw [bmk_tb, bmk_tb]
  by_cases e : i < n
  · rw [h i e]
  · rw [decide_eq_false e]; rfl
theorem bmk_or {P : Nat → Bool} {n q : Nat} (hq : q < n) : bmk P n ||| 2 ^ q = bmk (fun i => P i || decide (i = q)) n := Nat.eq_of_testBit_eq fun i => by
  rw [fb_bit_set, bmk_tb, bmk_tb]
  by_cases e : i = q
  · subst e; simp [hq]
  · simp [e]
set_option maxHeartbeats 4000000 in
theorem c_great (d : Nat) {u e w : Nat} (hs : σ.2.2 = (4, 14)) (hT : WfT τ) (hR : RTc 4 τ σ) (hW : WfN τ ν) (hN : RNc 24 ν σ) (hu : 1 ≤ u ∧ u ≤ 99) (he : nD ν ≤ e ∧ e ≤ 9) (hw : w ≤ 1) : yC (d + 4) 76 [.ref 0, .int (nI u), .int (nI e), .int (nI w)] σ (fun r σ' => r = some (.int (gans w (gMF τ ν (e - nD ν + 1) (10 * tP τ) 0 (u, 0, 0)))) ∧ σ' = σ) := by
  have hP4 := hT.1
  have e0 : σ.1 4 0 = nI (tP τ) := hR.1.1
  have eD : σ.1 24 0 = nI (nD ν) := hN.1.1
  have z1 : ¬ nI u < 1 := nI_nlt (b := 1) hu.1 (by omega)
  have z2 : ¬ (99 : Int32) < nI u := nI_nlt (a := 99) hu.2 (by decide)
  have z3 : ¬ nI e < nI (nD ν) := nI_nlt he.1 (by omega)
  have z4 : ¬ (9 : Int32) < nI e := nI_nlt (a := 9) he.2 (by decide)
  have z5 : ¬ nI w < 0 := nI_pos (by omega)
  have z6 : nI w ≤ 1 := nI_le (b := 1) hw (by decide)
  refine C76 (Nat.le_of_ble_eq_true rfl) ?_
  simp only [lv_args, Value.category]
  rw [g76_0]
  simp only [g76_1, g76_2, g76_5, g76_6, g76_8, g76_11, g76_12, g76_13, g76_16, g76_19, g76_22, g76_23, g76_25, g76_28, g76_29, g76_32, g76_33, g76_34, g76_37, g76_38, g76_39, g76_40, g76_41, g76_44, g76_47, g76_48, g76_49, g76_50, g76_52, g76_53, g76_55, g76_56, g76_58, g76_59, g76_61, g76_62, g76_64, g76_65, zldI, zldJ, zldR, zlk, zs1, zc1, zs2, zc2, Value.category, zdup_i, zdup_r, zdup2_i, zdup2_l, zrcv, zrm, ↓reduceIte, Nat.reduceAdd, Nat.reduceEqDiff, Nat.reduceLeDiff, Nat.reduceMul, and_false, false_and, and_true, true_and, List.map_cons, List.map_nil, List.sum_cons, List.sum_nil, Option.toList_some, Option.toList_none, List.cons_append, List.nil_append, or_true, true_or, or_false, false_or, Nat.add_zero, Nat.zero_add, Nat.one_ne_zero, Nat.zero_ne_one, not_false_eq_true, not_true_eq_false, implies_true, forall_const, exists_eq_left, reduceCtorEq, false_implies, true_implies, wA1, wA2, wI1, wI2, wJ1, wJ2, wJ3, wR1, wR2, wR31, wR32, zK_0, zfv_0_0, zfv_0_1, zfv_0_2, zfv_0_3, zfv_0_4, zfv_0_5, zfv_0_6, zfv_0_7, zfv_0_8, zfv_0_9, zK_1, zfv_1_0, zfv_1_1, zfv_1_2, zfv_1_3, zfv_1_4, zfv_1_5, zfv_1_6, zK_2, zLn_2, zK_3, zLn_3, zK_4, zfv_4_0, zfv_4_1, zfv_4_2, zfv_4_3, zfv_4_4, zfv_4_5, zfv_4_6, zfv_4_7, zfv_4_8, zfv_4_9, zfv_4_10, zfv_4_11, zK_5, zLn_5, zK_6, zLn_6, zK_7, zLn_7, zK_8, zLn_8, zK_9, zLn_9, zK_10, zLn_10, zK_11, zLn_11, zK_12, zLn_12, zK_13, zLn_13, zK_14, zfv_14_0, zfv_14_1, zfv_14_2, zfv_14_3, zfv_14_4, zfv_14_5, zfv_14_6, zfv_14_7, zfv_14_8, zfv_14_9, zfv_14_10, zfv_14_11, zK_15, zLn_15, zK_16, zLn_16, zK_17, zLn_17, zK_18, zLn_18, zK_19, zLn_19, zK_20, zLn_20, zK_21, zLn_21, zK_22, zLn_22, zK_23, zLn_23, zK_24, zfv_24_0, zfv_24_1, zfv_24_2, zfv_24_3, zfv_24_4, zfv_24_5, zfv_24_6, zfv_24_7, zfv_24_8, zfv_24_9, zK_25, zLn_25, zK_26, zLn_26, zK_27, zLn_27, zK_28, zLn_28, zK_29, zLn_29, zK_30, zLn_30, zK_31, zfv_31_0, zfv_31_1, zfv_31_2, zfv_31_3, zfv_31_4, zfv_31_5, zfv_31_6, zfv_31_7, zfv_31_8, zfv_31_9, zK_32, zLn_32, zK_33, zLn_33, zK_34, zLn_34, zK_35, zLn_35, zK_36, zLn_36, zK_37, zLn_37, zK_38, zfv_38_0, zfv_38_1, zfv_38_2, zfv_38_3, zfv_38_4, zfv_38_5, zfv_38_6, zfv_38_7, zfv_38_8, zfv_38_9, zK_39, zLn_39, zK_40, zLn_40, zK_41, zLn_41, zK_42, zLn_42, zK_43, zLn_43, zK_44, zLn_44, zK_45, zLn_45, zK_46, zLn_46, zK_47, zfv_47_0, zfv_47_1, zfv_47_2, zfv_47_3, zfv_47_4, zfv_47_5, zfv_47_6, zK_48, zLn_48, zK_49, zLn_49, zK_50, zLn_50, zK_51, zLn_51, zK_52, zLn_52, zK_53, zLn_53, zK_54, zLn_54, zK_55, zLn_55, zK_56, zLn_56, zK_57, zLn_57, zK_58, zLn_58, zK_59, zLn_59, zK_60, zfv_60_0, zfv_60_1, zfv_60_2, zK_61, zLn_61, zK_62, zfv_62_0, zK_63, zLn_63, zK_64, zfv_64_0, zfv_64_1, zfv_64_2, zfv_64_3, zfv_64_4, zfv_64_5, zfv_64_6, zfv_64_7, zfv_64_8, zfv_64_9, zfv_64_10, zfv_64_11, zfv_64_12, zfv_64_13, zfv_64_14, zfv_64_15, zfv_64_16, zfv_64_17, zfv_64_18, zfv_64_19, zfv_64_20, zfv_64_21, zfv_64_22, zfv_64_23, zfv_64_24, zfv_64_25, zfv_64_26, zfv_64_27, zK_65, zLn_65, zK_66, zLn_66, zK_67, zLn_67, zK_68, zLn_68, zK_69, zLn_69, zK_70, zLn_70, zK_71, zLn_71, zK_72, zLn_72, zK_73, zLn_73, zK_74, zLn_74, zK_75, zLn_75, zK_76, zLn_76, zK_77, zLn_77, zK_78, zLn_78, zK_79, zLn_79, zK_80, zLn_80, zK_81, zLn_81, eD, z1, z2, z3, z4, z5, z6, pk_sub he.1, nI_1]
  suffices H : ∀ K s, K ≤ 10 * tP τ → s.1 ≤ 99 → 0 = fb_ct (fun q => decide (gky τ q < K)) (tP τ) → Y76 (d + 3) (fun r σ' => r = some (.int (gans w (gMF τ ν (e - nD ν + 1) (10 * tP τ - K) K s))) ∧ σ' = σ) 67 [(0, .ref 0), (1, .int (nI u)), (2, .int (nI e)), (3, .int (nI w)), (4, .int (nI (e - nD ν + 1))), (5, .int (nI s.1)), (6, .int (nI s.2.1)), (7, .int (nI s.2.2)), (8, .int (nI (bmk (fun q => decide (gky τ q < K)) (tP τ)))), (9, .int (nI 0))] [] σ by
    have h0 := H 0 (u, 0, 0) (Nat.zero_le _) hu.2 (by
      rw [fb_ct_zero.mpr]
      intro k _
      exact decide_eq_false (Nat.not_lt_zero _))
    have hb : bmk (fun q => decide (gky τ q < 0)) (tP τ) = 0 := by
      refine Nat.eq_of_testBit_eq fun i => ?_
      rw [bmk_tb, decide_eq_false (Nat.not_lt_zero _), Bool.and_false, Nat.zero_testBit]
    rw [hb] at h0
    exact h0
  refine yup (P := fun t => ∀ K s, K ≤ 10 * tP τ → s.1 ≤ 99 → t = fb_ct (fun q => decide (gky τ q < K)) (tP τ) → Y76 (d + 3) (fun r σ' => r = some (.int (gans w (gMF τ ν (e - nD ν + 1) (10 * tP τ - K) K s))) ∧ σ' = σ) 67 [(0, .ref 0), (1, .int (nI u)), (2, .int (nI e)), (3, .int (nI w)), (4, .int (nI (e - nD ν + 1))), (5, .int (nI s.1)), (6, .int (nI s.2.1)), (7, .int (nI s.2.2)), (8, .int (nI (bmk (fun q => decide (gky τ q < K)) (tP τ)))), (9, .int (nI t))] [] σ) 0 (tP τ) (Nat.zero_le _) ?_ ?_
  · intro K s hK hs1 ht
    have hall := ct_full ht.symm
    rw [gMF_end s (fun q hq => of_decide_eq_true (hall q hq))]
    rw [g76_67]
    simp only [g76_69, g76_70, g76_73, g76_76, g76_79, g76_81, g76_84, g76_85, g76_87, g76_161, g76_163, g76_166, g76_168, g76_169, g76_170, g76_173, g76_175, g76_178, g76_180, zldI, zldJ, zldR, zlk, zs1, zc1, zs2, zc2, Value.category, zdup_i, zdup_r, zdup2_i, zdup2_l, zrcv, zrm, ↓reduceIte, Nat.reduceAdd, Nat.reduceEqDiff, Nat.reduceLeDiff, Nat.reduceMul, and_false, false_and, and_true, true_and, List.map_cons, List.map_nil, List.sum_cons, List.sum_nil, Option.toList_some, Option.toList_none, List.cons_append, List.nil_append, or_true, true_or, or_false, false_or, Nat.add_zero, Nat.zero_add, Nat.one_ne_zero, Nat.zero_ne_one, not_false_eq_true, not_true_eq_false, implies_true, forall_const, exists_eq_left, reduceCtorEq, false_implies, true_implies, wA1, wA2, wI1, wI2, wJ1, wJ2, wJ3, wR1, wR2, wR31, wR32, zK_0, zfv_0_0, zfv_0_1, zfv_0_2, zfv_0_3, zfv_0_4, zfv_0_5, zfv_0_6, zfv_0_7, zfv_0_8, zfv_0_9, zK_1, zfv_1_0, zfv_1_1, zfv_1_2, zfv_1_3, zfv_1_4, zfv_1_5, zfv_1_6, zK_2, zLn_2, zK_3, zLn_3, zK_4, zfv_4_0, zfv_4_1, zfv_4_2, zfv_4_3, zfv_4_4, zfv_4_5, zfv_4_6, zfv_4_7, zfv_4_8, zfv_4_9, zfv_4_10, zfv_4_11, zK_5, zLn_5, zK_6, zLn_6, zK_7, zLn_7, zK_8, zLn_8, zK_9, zLn_9, zK_10, zLn_10, zK_11, zLn_11, zK_12, zLn_12, zK_13, zLn_13, zK_14, zfv_14_0, zfv_14_1, zfv_14_2, zfv_14_3, zfv_14_4, zfv_14_5, zfv_14_6, zfv_14_7, zfv_14_8, zfv_14_9, zfv_14_10, zfv_14_11, zK_15, zLn_15, zK_16, zLn_16, zK_17, zLn_17, zK_18, zLn_18, zK_19, zLn_19, zK_20, zLn_20, zK_21, zLn_21, zK_22, zLn_22, zK_23, zLn_23, zK_24, zfv_24_0, zfv_24_1, zfv_24_2, zfv_24_3, zfv_24_4, zfv_24_5, zfv_24_6, zfv_24_7, zfv_24_8, zfv_24_9, zK_25, zLn_25, zK_26, zLn_26, zK_27, zLn_27, zK_28, zLn_28, zK_29, zLn_29, zK_30, zLn_30, zK_31, zfv_31_0, zfv_31_1, zfv_31_2, zfv_31_3, zfv_31_4, zfv_31_5, zfv_31_6, zfv_31_7, zfv_31_8, zfv_31_9, zK_32, zLn_32, zK_33, zLn_33, zK_34, zLn_34, zK_35, zLn_35, zK_36, zLn_36, zK_37, zLn_37, zK_38, zfv_38_0, zfv_38_1, zfv_38_2, zfv_38_3, zfv_38_4, zfv_38_5, zfv_38_6, zfv_38_7, zfv_38_8, zfv_38_9, zK_39, zLn_39, zK_40, zLn_40, zK_41, zLn_41, zK_42, zLn_42, zK_43, zLn_43, zK_44, zLn_44, zK_45, zLn_45, zK_46, zLn_46, zK_47, zfv_47_0, zfv_47_1, zfv_47_2, zfv_47_3, zfv_47_4, zfv_47_5, zfv_47_6, zK_48, zLn_48, zK_49, zLn_49, zK_50, zLn_50, zK_51, zLn_51, zK_52, zLn_52, zK_53, zLn_53, zK_54, zLn_54, zK_55, zLn_55, zK_56, zLn_56, zK_57, zLn_57, zK_58, zLn_58, zK_59, zLn_59, zK_60, zfv_60_0, zfv_60_1, zfv_60_2, zK_61, zLn_61, zK_62, zfv_62_0, zK_63, zLn_63, zK_64, zfv_64_0, zfv_64_1, zfv_64_2, zfv_64_3, zfv_64_4, zfv_64_5, zfv_64_6, zfv_64_7, zfv_64_8, zfv_64_9, zfv_64_10, zfv_64_11, zfv_64_12, zfv_64_13, zfv_64_14, zfv_64_15, zfv_64_16, zfv_64_17, zfv_64_18, zfv_64_19, zfv_64_20, zfv_64_21, zfv_64_22, zfv_64_23, zfv_64_24, zfv_64_25, zfv_64_26, zfv_64_27, zK_65, zLn_65, zK_66, zLn_66, zK_67, zLn_67, zK_68, zLn_68, zK_69, zLn_69, zK_70, zLn_70, zK_71, zLn_71, zK_72, zLn_72, zK_73, zLn_73, zK_74, zLn_74, zK_75, zLn_75, zK_76, zLn_76, zK_77, zLn_77, zK_78, zLn_78, zK_79, zLn_79, zK_80, zLn_80, zK_81, zLn_81, hs, e0]
    refine ⟨fun _ => ⟨fun h => ?_, fun h => ?_⟩, fun h => absurd (nI_le (Nat.le_refl _) (by omega)) h⟩
    · have h0 : ¬ 0 < s.1 := fun z => absurd h (nI_nle z (by omega))
      refine ⟨fun h2 => ?_, fun h2 => ?_⟩
      · rw [gans_2 h0 (fun z => h2 (by rw [z]; rfl))]
      · rw [gans_1 h0 ((nI_eq (b := 0) (by omega) (by decide)).mp h2)]
    · rw [gans_0]
      rcases Nat.eq_zero_or_pos s.1 with z | z
      · exact absurd (by rw [z]; decide) h
      · exact z
  · intro t _ htP ih K s hK hs1 ht
    rw [g76_67]
    simp only [g76_69, g76_70, g76_73, g76_76, g76_79, g76_81, g76_84, g76_85, g76_87, zldI, zldJ, zldR, zlk, zs1, zc1, zs2, zc2, Value.category, zdup_i, zdup_r, zdup2_i, zdup2_l, zrcv, zrm, ↓reduceIte, Nat.reduceAdd, Nat.reduceEqDiff, Nat.reduceLeDiff, Nat.reduceMul, and_false, false_and, and_true, true_and, List.map_cons, List.map_nil, List.sum_cons, List.sum_nil, Option.toList_some, Option.toList_none, List.cons_append, List.nil_append, or_true, true_or, or_false, false_or, Nat.add_zero, Nat.zero_add, Nat.one_ne_zero, Nat.zero_ne_one, not_false_eq_true, not_true_eq_false, implies_true, forall_const, exists_eq_left, reduceCtorEq, false_implies, true_implies, wA1, wA2, wI1, wI2, wJ1, wJ2, wJ3, wR1, wR2, wR31, wR32, zK_0, zfv_0_0, zfv_0_1, zfv_0_2, zfv_0_3, zfv_0_4, zfv_0_5, zfv_0_6, zfv_0_7, zfv_0_8, zfv_0_9, zK_1, zfv_1_0, zfv_1_1, zfv_1_2, zfv_1_3, zfv_1_4, zfv_1_5, zfv_1_6, zK_2, zLn_2, zK_3, zLn_3, zK_4, zfv_4_0, zfv_4_1, zfv_4_2, zfv_4_3, zfv_4_4, zfv_4_5, zfv_4_6, zfv_4_7, zfv_4_8, zfv_4_9, zfv_4_10, zfv_4_11, zK_5, zLn_5, zK_6, zLn_6, zK_7, zLn_7, zK_8, zLn_8, zK_9, zLn_9, zK_10, zLn_10, zK_11, zLn_11, zK_12, zLn_12, zK_13, zLn_13, zK_14, zfv_14_0, zfv_14_1, zfv_14_2, zfv_14_3, zfv_14_4, zfv_14_5, zfv_14_6, zfv_14_7, zfv_14_8, zfv_14_9, zfv_14_10, zfv_14_11, zK_15, zLn_15, zK_16, zLn_16, zK_17, zLn_17, zK_18, zLn_18, zK_19, zLn_19, zK_20, zLn_20, zK_21, zLn_21, zK_22, zLn_22, zK_23, zLn_23, zK_24, zfv_24_0, zfv_24_1, zfv_24_2, zfv_24_3, zfv_24_4, zfv_24_5, zfv_24_6, zfv_24_7, zfv_24_8, zfv_24_9, zK_25, zLn_25, zK_26, zLn_26, zK_27, zLn_27, zK_28, zLn_28, zK_29, zLn_29, zK_30, zLn_30, zK_31, zfv_31_0, zfv_31_1, zfv_31_2, zfv_31_3, zfv_31_4, zfv_31_5, zfv_31_6, zfv_31_7, zfv_31_8, zfv_31_9, zK_32, zLn_32, zK_33, zLn_33, zK_34, zLn_34, zK_35, zLn_35, zK_36, zLn_36, zK_37, zLn_37, zK_38, zfv_38_0, zfv_38_1, zfv_38_2, zfv_38_3, zfv_38_4, zfv_38_5, zfv_38_6, zfv_38_7, zfv_38_8, zfv_38_9, zK_39, zLn_39, zK_40, zLn_40, zK_41, zLn_41, zK_42, zLn_42, zK_43, zLn_43, zK_44, zLn_44, zK_45, zLn_45, zK_46, zLn_46, zK_47, zfv_47_0, zfv_47_1, zfv_47_2, zfv_47_3, zfv_47_4, zfv_47_5, zfv_47_6, zK_48, zLn_48, zK_49, zLn_49, zK_50, zLn_50, zK_51, zLn_51, zK_52, zLn_52, zK_53, zLn_53, zK_54, zLn_54, zK_55, zLn_55, zK_56, zLn_56, zK_57, zLn_57, zK_58, zLn_58, zK_59, zLn_59, zK_60, zfv_60_0, zfv_60_1, zfv_60_2, zK_61, zLn_61, zK_62, zfv_62_0, zK_63, zLn_63, zK_64, zfv_64_0, zfv_64_1, zfv_64_2, zfv_64_3, zfv_64_4, zfv_64_5, zfv_64_6, zfv_64_7, zfv_64_8, zfv_64_9, zfv_64_10, zfv_64_11, zfv_64_12, zfv_64_13, zfv_64_14, zfv_64_15, zfv_64_16, zfv_64_17, zfv_64_18, zfv_64_19, zfv_64_20, zfv_64_21, zfv_64_22, zfv_64_23, zfv_64_24, zfv_64_25, zfv_64_26, zfv_64_27, zK_65, zLn_65, zK_66, zLn_66, zK_67, zLn_67, zK_68, zLn_68, zK_69, zLn_69, zK_70, zLn_70, zK_71, zLn_71, zK_72, zLn_72, zK_73, zLn_73, zK_74, zLn_74, zK_75, zLn_75, zK_76, zLn_76, zK_77, zLn_77, zK_78, zLn_78, zK_79, zLn_79, zK_80, zLn_80, zK_81, zLn_81, hs, e0]
    refine ⟨fun h => absurd h (nI_ge htP (by omega)), fun _ => ⟨fun h => ?_, fun h => ?_⟩⟩
    · have h0 : s.1 = 0 := by
        rcases Nat.eq_zero_or_pos s.1 with z | z
        · exact z
        · exact absurd h (nI_nle z (by omega))
      rw [gMF_0 _ _ h0]
      rw [g76_161]
      simp only [g76_163, g76_166, g76_168, g76_169, g76_170, g76_173, g76_175, g76_178, g76_180, zldI, zldJ, zldR, zlk, zs1, zc1, zs2, zc2, Value.category, zdup_i, zdup_r, zdup2_i, zdup2_l, zrcv, zrm, ↓reduceIte, Nat.reduceAdd, Nat.reduceEqDiff, Nat.reduceLeDiff, Nat.reduceMul, and_false, false_and, and_true, true_and, List.map_cons, List.map_nil, List.sum_cons, List.sum_nil, Option.toList_some, Option.toList_none, List.cons_append, List.nil_append, or_true, true_or, or_false, false_or, Nat.add_zero, Nat.zero_add, Nat.one_ne_zero, Nat.zero_ne_one, not_false_eq_true, not_true_eq_false, implies_true, forall_const, exists_eq_left, reduceCtorEq, false_implies, true_implies, wA1, wA2, wI1, wI2, wJ1, wJ2, wJ3, wR1, wR2, wR31, wR32, zK_0, zfv_0_0, zfv_0_1, zfv_0_2, zfv_0_3, zfv_0_4, zfv_0_5, zfv_0_6, zfv_0_7, zfv_0_8, zfv_0_9, zK_1, zfv_1_0, zfv_1_1, zfv_1_2, zfv_1_3, zfv_1_4, zfv_1_5, zfv_1_6, zK_2, zLn_2, zK_3, zLn_3, zK_4, zfv_4_0, zfv_4_1, zfv_4_2, zfv_4_3, zfv_4_4, zfv_4_5, zfv_4_6, zfv_4_7, zfv_4_8, zfv_4_9, zfv_4_10, zfv_4_11, zK_5, zLn_5, zK_6, zLn_6, zK_7, zLn_7, zK_8, zLn_8, zK_9, zLn_9, zK_10, zLn_10, zK_11, zLn_11, zK_12, zLn_12, zK_13, zLn_13, zK_14, zfv_14_0, zfv_14_1, zfv_14_2, zfv_14_3, zfv_14_4, zfv_14_5, zfv_14_6, zfv_14_7, zfv_14_8, zfv_14_9, zfv_14_10, zfv_14_11, zK_15, zLn_15, zK_16, zLn_16, zK_17, zLn_17, zK_18, zLn_18, zK_19, zLn_19, zK_20, zLn_20, zK_21, zLn_21, zK_22, zLn_22, zK_23, zLn_23, zK_24, zfv_24_0, zfv_24_1, zfv_24_2, zfv_24_3, zfv_24_4, zfv_24_5, zfv_24_6, zfv_24_7, zfv_24_8, zfv_24_9, zK_25, zLn_25, zK_26, zLn_26, zK_27, zLn_27, zK_28, zLn_28, zK_29, zLn_29, zK_30, zLn_30, zK_31, zfv_31_0, zfv_31_1, zfv_31_2, zfv_31_3, zfv_31_4, zfv_31_5, zfv_31_6, zfv_31_7, zfv_31_8, zfv_31_9, zK_32, zLn_32, zK_33, zLn_33, zK_34, zLn_34, zK_35, zLn_35, zK_36, zLn_36, zK_37, zLn_37, zK_38, zfv_38_0, zfv_38_1, zfv_38_2, zfv_38_3, zfv_38_4, zfv_38_5, zfv_38_6, zfv_38_7, zfv_38_8, zfv_38_9, zK_39, zLn_39, zK_40, zLn_40, zK_41, zLn_41, zK_42, zLn_42, zK_43, zLn_43, zK_44, zLn_44, zK_45, zLn_45, zK_46, zLn_46, zK_47, zfv_47_0, zfv_47_1, zfv_47_2, zfv_47_3, zfv_47_4, zfv_47_5, zfv_47_6, zK_48, zLn_48, zK_49, zLn_49, zK_50, zLn_50, zK_51, zLn_51, zK_52, zLn_52, zK_53, zLn_53, zK_54, zLn_54, zK_55, zLn_55, zK_56, zLn_56, zK_57, zLn_57, zK_58, zLn_58, zK_59, zLn_59, zK_60, zfv_60_0, zfv_60_1, zfv_60_2, zK_61, zLn_61, zK_62, zfv_62_0, zK_63, zLn_63, zK_64, zfv_64_0, zfv_64_1, zfv_64_2, zfv_64_3, zfv_64_4, zfv_64_5, zfv_64_6, zfv_64_7, zfv_64_8, zfv_64_9, zfv_64_10, zfv_64_11, zfv_64_12, zfv_64_13, zfv_64_14, zfv_64_15, zfv_64_16, zfv_64_17, zfv_64_18, zfv_64_19, zfv_64_20, zfv_64_21, zfv_64_22, zfv_64_23, zfv_64_24, zfv_64_25, zfv_64_26, zfv_64_27, zK_65, zLn_65, zK_66, zLn_66, zK_67, zLn_67, zK_68, zLn_68, zK_69, zLn_69, zK_70, zLn_70, zK_71, zLn_71, zK_72, zLn_72, zK_73, zLn_73, zK_74, zLn_74, zK_75, zLn_75, zK_76, zLn_76, zK_77, zLn_77, zK_78, zLn_78, zK_79, zLn_79, zK_80, zLn_80, zK_81, zLn_81]
      have h0' : ¬ 0 < s.1 := by omega
      refine ⟨fun _ => ⟨fun h2 => ?_, fun h2 => ?_⟩, fun z => absurd h z⟩
      · rw [gans_2 h0' (fun z => h2 (by rw [z]; rfl))]
      · rw [gans_1 h0' ((nI_eq (b := 0) (by omega) (by decide)).mp h2)]
    · obtain ⟨q0, hq0, hq0'⟩ := ct_some (ht ▸ htP)
      have hm8 : bmk (fun q => decide (gky τ q < K)) (tP τ) < 256 := bmk_lt8 _ (by omega)
      refine ycall (c_cheap _ hs hT hR hm8 ⟨q0, hq0, by rw [bmk_tb, hq0', Bool.and_false]⟩) ?_
      rintro _ σ9 ⟨⟨b, rfl, hb, hb1, hb2⟩, hσ9⟩
      rw [hσ9]
      clear hσ9
      simp only [Option.toList_some, List.cons_append, List.nil_append]
      rw [bmk_tb, decide_eq_true hb, Bool.true_and] at hb1
      have hKb : K ≤ gky τ b := Nat.not_lt.mp (of_decide_eq_false hb1)
      have hkl : ∀ q', q' < tP τ → K ≤ gky τ q' → gky τ b ≤ gky τ q' := by
        intro q' hq' hk'
        have := hb2 q' hq' (by rw [bmk_tb, decide_eq_false (show ¬ gky τ q' < K by omega), Bool.and_false])
        unfold gky
        rcases this with z | ⟨z, y⟩
        · have : (τ.2 2 b + 1) * tP τ ≤ τ.2 2 q' * tP τ := Nat.mul_le_mul_right _ z
          rw [Nat.add_mul] at this
          omega
        · rw [z]; omega
      rw [gMF_next hT s hKb hb hkl]
      have hpr := (hT.2.2.2.1 b hb)
      have hlt : gky τ b + 1 ≤ 10 * tP τ := by
        unfold gky
        have : τ.2 2 b * tP τ ≤ 9 * tP τ := Nat.mul_le_mul_right _ hpr.2.2
        omega
      have hag : ∀ i, i < tP τ → (decide (gky τ i < K) || decide (i = b)) = decide (gky τ i < gky τ b + 1) := by
        intro i hi
        by_cases h1 : gky τ i < K
        · rw [decide_eq_true h1, decide_eq_true (show gky τ i < gky τ b + 1 by omega)]; rfl
        · rw [decide_eq_false h1, Bool.false_or]
          have h2 := hkl i hi (by omega)
          by_cases h3 : i = b
          · rw [decide_eq_true h3, decide_eq_true (show gky τ i < gky τ b + 1 by rw [h3]; omega)]
          · rw [decide_eq_false h3, decide_eq_false]
            intro h4
            have h5 : gky τ i = gky τ b := by omega
            have a1 := (gky_mod hi).1
            have a2 := (gky_mod hb).1
            rw [h5] at a1
            omega
      have hmk : bmk (fun q => decide (gky τ q < K)) (tP τ) ||| 2 ^ b = bmk (fun q => decide (gky τ q < gky τ b + 1)) (tP τ) := by
        rw [bmk_or hb]
        exact bmk_eq hag
      have hct : t + 1 = fb_ct (fun q => decide (gky τ q < gky τ b + 1)) (tP τ) := by
        have h1 := fb_ct_upd (fun q => decide (gky τ q < K)) true hb
        rw [hb1] at h1
        have h2 : fb_ct (fun q => decide (gky τ q < gky τ b + 1)) (tP τ) = fb_ct (fun k => if k = b then true else decide (gky τ k < K)) (tP τ) := fb_ct_cong fun i hi => by
          rw [← hag i hi]
          by_cases z : i = b
          · rw [if_pos z, decide_eq_true z, Bool.or_true]
          · rw [if_neg z, decide_eq_false z, Bool.or_false]
        rw [h2]
        simp only [Bool.false_eq_true, if_false, if_true, Nat.add_zero] at h1
        omega
      have ih2 := ih (gky τ b + 1) (gst τ ν (e - nD ν + 1) b s) hlt (Nat.le_trans gst_le hs1) hct
      have e7 : σ.1 7 b = nI (τ.2 2 b) := (hR.2.1 b hb).2.2
      rw [g76_90]
      simp only [g76_92, g76_94, g76_95, g76_97, g76_98, g76_99, g76_101, g76_103, g76_104, g76_106, g76_108, zldI, zldJ, zldR, zlk, zs1, zc1, zs2, zc2, Value.category, zdup_i, zdup_r, zdup2_i, zdup2_l, zrcv, zrm, ↓reduceIte, Nat.reduceAdd, Nat.reduceEqDiff, Nat.reduceLeDiff, Nat.reduceMul, and_false, false_and, and_true, true_and, List.map_cons, List.map_nil, List.sum_cons, List.sum_nil, Option.toList_some, Option.toList_none, List.cons_append, List.nil_append, or_true, true_or, or_false, false_or, Nat.add_zero, Nat.zero_add, Nat.one_ne_zero, Nat.zero_ne_one, not_false_eq_true, not_true_eq_false, implies_true, forall_const, exists_eq_left, reduceCtorEq, false_implies, true_implies, wA1, wA2, wI1, wI2, wJ1, wJ2, wJ3, wR1, wR2, wR31, wR32, zK_0, zfv_0_0, zfv_0_1, zfv_0_2, zfv_0_3, zfv_0_4, zfv_0_5, zfv_0_6, zfv_0_7, zfv_0_8, zfv_0_9, zK_1, zfv_1_0, zfv_1_1, zfv_1_2, zfv_1_3, zfv_1_4, zfv_1_5, zfv_1_6, zK_2, zLn_2, zK_3, zLn_3, zK_4, zfv_4_0, zfv_4_1, zfv_4_2, zfv_4_3, zfv_4_4, zfv_4_5, zfv_4_6, zfv_4_7, zfv_4_8, zfv_4_9, zfv_4_10, zfv_4_11, zK_5, zLn_5, zK_6, zLn_6, zK_7, zLn_7, zK_8, zLn_8, zK_9, zLn_9, zK_10, zLn_10, zK_11, zLn_11, zK_12, zLn_12, zK_13, zLn_13, zK_14, zfv_14_0, zfv_14_1, zfv_14_2, zfv_14_3, zfv_14_4, zfv_14_5, zfv_14_6, zfv_14_7, zfv_14_8, zfv_14_9, zfv_14_10, zfv_14_11, zK_15, zLn_15, zK_16, zLn_16, zK_17, zLn_17, zK_18, zLn_18, zK_19, zLn_19, zK_20, zLn_20, zK_21, zLn_21, zK_22, zLn_22, zK_23, zLn_23, zK_24, zfv_24_0, zfv_24_1, zfv_24_2, zfv_24_3, zfv_24_4, zfv_24_5, zfv_24_6, zfv_24_7, zfv_24_8, zfv_24_9, zK_25, zLn_25, zK_26, zLn_26, zK_27, zLn_27, zK_28, zLn_28, zK_29, zLn_29, zK_30, zLn_30, zK_31, zfv_31_0, zfv_31_1, zfv_31_2, zfv_31_3, zfv_31_4, zfv_31_5, zfv_31_6, zfv_31_7, zfv_31_8, zfv_31_9, zK_32, zLn_32, zK_33, zLn_33, zK_34, zLn_34, zK_35, zLn_35, zK_36, zLn_36, zK_37, zLn_37, zK_38, zfv_38_0, zfv_38_1, zfv_38_2, zfv_38_3, zfv_38_4, zfv_38_5, zfv_38_6, zfv_38_7, zfv_38_8, zfv_38_9, zK_39, zLn_39, zK_40, zLn_40, zK_41, zLn_41, zK_42, zLn_42, zK_43, zLn_43, zK_44, zLn_44, zK_45, zLn_45, zK_46, zLn_46, zK_47, zfv_47_0, zfv_47_1, zfv_47_2, zfv_47_3, zfv_47_4, zfv_47_5, zfv_47_6, zK_48, zLn_48, zK_49, zLn_49, zK_50, zLn_50, zK_51, zLn_51, zK_52, zLn_52, zK_53, zLn_53, zK_54, zLn_54, zK_55, zLn_55, zK_56, zLn_56, zK_57, zLn_57, zK_58, zLn_58, zK_59, zLn_59, zK_60, zfv_60_0, zfv_60_1, zfv_60_2, zK_61, zLn_61, zK_62, zfv_62_0, zK_63, zLn_63, zK_64, zfv_64_0, zfv_64_1, zfv_64_2, zfv_64_3, zfv_64_4, zfv_64_5, zfv_64_6, zfv_64_7, zfv_64_8, zfv_64_9, zfv_64_10, zfv_64_11, zfv_64_12, zfv_64_13, zfv_64_14, zfv_64_15, zfv_64_16, zfv_64_17, zfv_64_18, zfv_64_19, zfv_64_20, zfv_64_21, zfv_64_22, zfv_64_23, zfv_64_24, zfv_64_25, zfv_64_26, zfv_64_27, zK_65, zLn_65, zK_66, zLn_66, zK_67, zLn_67, zK_68, zLn_68, zK_69, zLn_69, zK_70, zLn_70, zK_71, zLn_71, zK_72, zLn_72, zK_73, zLn_73, zK_74, zLn_74, zK_75, zLn_75, zK_76, zLn_76, zK_77, zLn_77, zK_78, zLn_78, zK_79, zLn_79, zK_80, zLn_80, zK_81, zLn_81, bs_one (show b < 31 by omega), fa_or, hmk]
      refine ycallp (c_spare _ hs hT hR hW hN hb (by omega)) ?_
      simp only [Option.toList_some, List.cons_append, List.nil_append]
      have hg : gsp τ ν (e - nD ν + 1) b < 2 ^ 31 := by
        unfold gsp
        split
        · have : τ.2 1 b * (e - nD ν + 1) ≤ 3 * 10 := Nat.mul_le_mul hpr.2.1.2 (by omega)
          omega
        · decide
      have hmin : min s.1 (gsp τ ν (e - nD ν + 1) b) ≤ 99 := Nat.le_trans (Nat.min_le_left _ _) hs1
      rw [g76_111]
      simp only [g76_114, g76_116, g76_118, g76_121, g76_123, g76_124, g76_126, g76_127, g76_128, g76_130, g76_132, g76_134, g76_135, g76_138, g76_141, g76_143, g76_144, g76_145, g76_146, g76_148, g76_150, g76_152, g76_153, g76_155, g76_158, zldI, zldJ, zldR, zlk, zs1, zc1, zs2, zc2, Value.category, zdup_i, zdup_r, zdup2_i, zdup2_l, zrcv, zrm, ↓reduceIte, Nat.reduceAdd, Nat.reduceEqDiff, Nat.reduceLeDiff, Nat.reduceMul, and_false, false_and, and_true, true_and, List.map_cons, List.map_nil, List.sum_cons, List.sum_nil, Option.toList_some, Option.toList_none, List.cons_append, List.nil_append, or_true, true_or, or_false, false_or, Nat.add_zero, Nat.zero_add, Nat.one_ne_zero, Nat.zero_ne_one, not_false_eq_true, not_true_eq_false, implies_true, forall_const, exists_eq_left, reduceCtorEq, false_implies, true_implies, wA1, wA2, wI1, wI2, wJ1, wJ2, wJ3, wR1, wR2, wR31, wR32, zK_0, zfv_0_0, zfv_0_1, zfv_0_2, zfv_0_3, zfv_0_4, zfv_0_5, zfv_0_6, zfv_0_7, zfv_0_8, zfv_0_9, zK_1, zfv_1_0, zfv_1_1, zfv_1_2, zfv_1_3, zfv_1_4, zfv_1_5, zfv_1_6, zK_2, zLn_2, zK_3, zLn_3, zK_4, zfv_4_0, zfv_4_1, zfv_4_2, zfv_4_3, zfv_4_4, zfv_4_5, zfv_4_6, zfv_4_7, zfv_4_8, zfv_4_9, zfv_4_10, zfv_4_11, zK_5, zLn_5, zK_6, zLn_6, zK_7, zLn_7, zK_8, zLn_8, zK_9, zLn_9, zK_10, zLn_10, zK_11, zLn_11, zK_12, zLn_12, zK_13, zLn_13, zK_14, zfv_14_0, zfv_14_1, zfv_14_2, zfv_14_3, zfv_14_4, zfv_14_5, zfv_14_6, zfv_14_7, zfv_14_8, zfv_14_9, zfv_14_10, zfv_14_11, zK_15, zLn_15, zK_16, zLn_16, zK_17, zLn_17, zK_18, zLn_18, zK_19, zLn_19, zK_20, zLn_20, zK_21, zLn_21, zK_22, zLn_22, zK_23, zLn_23, zK_24, zfv_24_0, zfv_24_1, zfv_24_2, zfv_24_3, zfv_24_4, zfv_24_5, zfv_24_6, zfv_24_7, zfv_24_8, zfv_24_9, zK_25, zLn_25, zK_26, zLn_26, zK_27, zLn_27, zK_28, zLn_28, zK_29, zLn_29, zK_30, zLn_30, zK_31, zfv_31_0, zfv_31_1, zfv_31_2, zfv_31_3, zfv_31_4, zfv_31_5, zfv_31_6, zfv_31_7, zfv_31_8, zfv_31_9, zK_32, zLn_32, zK_33, zLn_33, zK_34, zLn_34, zK_35, zLn_35, zK_36, zLn_36, zK_37, zLn_37, zK_38, zfv_38_0, zfv_38_1, zfv_38_2, zfv_38_3, zfv_38_4, zfv_38_5, zfv_38_6, zfv_38_7, zfv_38_8, zfv_38_9, zK_39, zLn_39, zK_40, zLn_40, zK_41, zLn_41, zK_42, zLn_42, zK_43, zLn_43, zK_44, zLn_44, zK_45, zLn_45, zK_46, zLn_46, zK_47, zfv_47_0, zfv_47_1, zfv_47_2, zfv_47_3, zfv_47_4, zfv_47_5, zfv_47_6, zK_48, zLn_48, zK_49, zLn_49, zK_50, zLn_50, zK_51, zLn_51, zK_52, zLn_52, zK_53, zLn_53, zK_54, zLn_54, zK_55, zLn_55, zK_56, zLn_56, zK_57, zLn_57, zK_58, zLn_58, zK_59, zLn_59, zK_60, zfv_60_0, zfv_60_1, zfv_60_2, zK_61, zLn_61, zK_62, zfv_62_0, zK_63, zLn_63, zK_64, zfv_64_0, zfv_64_1, zfv_64_2, zfv_64_3, zfv_64_4, zfv_64_5, zfv_64_6, zfv_64_7, zfv_64_8, zfv_64_9, zfv_64_10, zfv_64_11, zfv_64_12, zfv_64_13, zfv_64_14, zfv_64_15, zfv_64_16, zfv_64_17, zfv_64_18, zfv_64_19, zfv_64_20, zfv_64_21, zfv_64_22, zfv_64_23, zfv_64_24, zfv_64_25, zfv_64_26, zfv_64_27, zK_65, zLn_65, zK_66, zLn_66, zK_67, zLn_67, zK_68, zLn_68, zK_69, zLn_69, zK_70, zLn_70, zK_71, zLn_71, zK_72, zLn_72, zK_73, zLn_73, zK_74, zLn_74, zK_75, zLn_75, zK_76, zLn_76, zK_77, zLn_77, zK_78, zLn_78, zK_79, zLn_79, zK_80, zLn_80, zK_81, zLn_81, mn2 (show s.1 < 2 ^ 31 by omega) hg, bs_one (show b < 31 by omega), fa_or, hs, nI_clamp (show b < 2 ^ 31 by omega), e7, pk_mul, nI_add, pk_sub (Nat.min_le_left s.1 (gsp τ ν (e - nD ν + 1) b)), nI_1]
      unfold gst at ih2
      dsimp only at ih2
      refine ⟨fun h => ?_, fun h => ?_⟩
      · have h0 : ¬ 0 < min s.1 (gsp τ ν (e - nD ν + 1) b) := fun z => absurd h (nI_nle z (by omega))
        have h0' : min s.1 (gsp τ ν (e - nD ν + 1) b) = 0 := by omega
        rw [if_neg h0, h0', Nat.sub_zero, Nat.zero_mul, Nat.add_zero] at ih2
        have hg2 : gst τ ν (e - nD ν + 1) b s = (s.1, s.2.1, s.2.2) := by
          unfold gst
          rw [if_neg h0, h0', Nat.sub_zero, Nat.zero_mul, Nat.add_zero]
        rw [hg2]
        refine yX_le ?_ (ih2)
        repeat (first | exact lvle_nil _ | refine lvle_cons rfl ?_)
      · have h0 : 0 < min s.1 (gsp τ ν (e - nD ν + 1) b) := by
          rcases Nat.eq_zero_or_pos (min s.1 (gsp τ ν (e - nD ν + 1) b)) with z | z
          · exact absurd (by rw [z]; decide) h
          · exact z
        repeat (first | refine ⟨vp_in_nI (by omega) (by decide), ?_⟩ | refine ⟨(by unfold vp_in; decide), ?_⟩)
        rw [if_pos h0] at ih2
        have hg2 : gst τ ν (e - nD ν + 1) b s = (s.1 - min s.1 (gsp τ ν (e - nD ν + 1) b), s.2.1 + min s.1 (gsp τ ν (e - nD ν + 1) b) * τ.2 2 b, s.2.2 ||| 2 ^ b) := by
          unfold gst
          rw [if_pos h0]
        rw [hg2]
        refine yX_le ?_ (ih2)
        repeat (first | exact lvle_nil _ | refine lvle_cons rfl ?_)
end
