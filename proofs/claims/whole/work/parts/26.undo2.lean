/-! ===== undo: the two calls ===== -/
section UN
variable {τ : aT} {ν ν' : aN} {σ : zSt}
set_option maxHeartbeats 1000000 in
theorem c_undo (d : Nat) {l : List aD} {e : aD} (hT : WfT τ) (hW : WfN τ ν) (hW' : WfN τ ν') (hl : nE ν = l ++ [e]) (hl12 : l.length < 12) (hS : Step τ ν' e ν) (hN : RNc 24 ν σ) :
    yC (d + 4) 65 [.ref 0] σ (fun r σ' => r = some (.int (nI l.length)) ∧ RNc 24 (wE ν' l) σ' ∧ xO 24 31 σ σ') := by
  have hm : σ.1 24 8 = nI (l.length + 1) := by
    rw [hN.1.2.2.2, hl, List.length_append]
    rfl
  refine C65 (Nat.le_of_ble_eq_true rfl) ?_
  simp only [lv_args, Value.category]
  rw [g65_0]
  simp only [g65_1, g65_4, g65_7, g65_10, g65_12, g65_13, g65_14, g65_17, zldI, zldJ, zldR, zlk, zs1, zc1, zs2, zc2, Value.category, zdup_i, zdup_r, zdup2_i, zdup2_l, zrcv, zrm, ↓reduceIte, Nat.reduceAdd, Nat.reduceEqDiff, Nat.reduceLeDiff, Nat.reduceMul, and_false, false_and, and_true, true_and, List.map_cons, List.map_nil, List.sum_cons, List.sum_nil, Option.toList_some, Option.toList_none, List.cons_append, List.nil_append, or_true, true_or, or_false, false_or, Nat.add_zero, Nat.zero_add, Nat.one_ne_zero, Nat.zero_ne_one, not_false_eq_true, not_true_eq_false, implies_true, forall_const, exists_eq_left, reduceCtorEq, false_implies, true_implies, wA1, wA2, wI1, wI2, wJ1, wJ2, wJ3, wR1, wR2, wR31, wR32, zK_0, zfv_0_0, zfv_0_1, zfv_0_2, zfv_0_3, zfv_0_4, zfv_0_5, zfv_0_6, zfv_0_7, zfv_0_8, zfv_0_9, zK_1, zfv_1_0, zfv_1_1, zfv_1_2, zfv_1_3, zfv_1_4, zfv_1_5, zfv_1_6, zK_2, zLn_2, zK_3, zLn_3, zK_4, zfv_4_0, zfv_4_1, zfv_4_2, zfv_4_3, zfv_4_4, zfv_4_5, zfv_4_6, zfv_4_7, zfv_4_8, zfv_4_9, zfv_4_10, zfv_4_11, zK_5, zLn_5, zK_6, zLn_6, zK_7, zLn_7, zK_8, zLn_8, zK_9, zLn_9, zK_10, zLn_10, zK_11, zLn_11, zK_12, zLn_12, zK_13, zLn_13, zK_14, zfv_14_0, zfv_14_1, zfv_14_2, zfv_14_3, zfv_14_4, zfv_14_5, zfv_14_6, zfv_14_7, zfv_14_8, zfv_14_9, zfv_14_10, zfv_14_11, zK_15, zLn_15, zK_16, zLn_16, zK_17, zLn_17, zK_18, zLn_18, zK_19, zLn_19, zK_20, zLn_20, zK_21, zLn_21, zK_22, zLn_22, zK_23, zLn_23, zK_24, zfv_24_0, zfv_24_1, zfv_24_2, zfv_24_3, zfv_24_4, zfv_24_5, zfv_24_6, zfv_24_7, zfv_24_8, zfv_24_9, zK_25, zLn_25, zK_26, zLn_26, zK_27, zLn_27, zK_28, zLn_28, zK_29, zLn_29, zK_30, zLn_30, zK_31, zfv_31_0, zfv_31_1, zfv_31_2, zfv_31_3, zfv_31_4, zfv_31_5, zfv_31_6, zfv_31_7, zfv_31_8, zfv_31_9, zK_32, zLn_32, zK_33, zLn_33, zK_34, zLn_34, zK_35, zLn_35, zK_36, zLn_36, zK_37, zLn_37, zK_38, zfv_38_0, zfv_38_1, zfv_38_2, zfv_38_3, zfv_38_4, zfv_38_5, zfv_38_6, zfv_38_7, zfv_38_8, zfv_38_9, zK_39, zLn_39, zK_40, zLn_40, zK_41, zLn_41, zK_42, zLn_42, zK_43, zLn_43, zK_44, zLn_44, zK_45, zLn_45, zK_46, zLn_46, zK_47, zfv_47_0, zfv_47_1, zfv_47_2, zfv_47_3, zfv_47_4, zfv_47_5, zfv_47_6, zK_48, zLn_48, zK_49, zLn_49, zK_50, zLn_50, zK_51, zLn_51, zK_52, zLn_52, zK_53, zLn_53, zK_54, zLn_54, zK_55, zLn_55, zK_56, zLn_56, zK_57, zLn_57, zK_58, zLn_58, zK_59, zLn_59, zK_60, zfv_60_0, zfv_60_1, zfv_60_2, zK_61, zLn_61, zK_62, zfv_62_0, zK_63, zLn_63, zK_64, zfv_64_0, zfv_64_1, zfv_64_2, zfv_64_3, zfv_64_4, zfv_64_5, zfv_64_6, zfv_64_7, zfv_64_8, zfv_64_9, zfv_64_10, zfv_64_11, zfv_64_12, zfv_64_13, zfv_64_14, zfv_64_15, zfv_64_16, zfv_64_17, zfv_64_18, zfv_64_19, zfv_64_20, zfv_64_21, zfv_64_22, zfv_64_23, zfv_64_24, zfv_64_25, zfv_64_26, zfv_64_27, zK_65, zLn_65, zK_66, zLn_66, zK_67, zLn_67, zK_68, zLn_68, zK_69, zLn_69, zK_70, zLn_70, zK_71, zLn_71, zK_72, zLn_72, zK_73, zLn_73, zK_74, zLn_74, zK_75, zLn_75, zK_76, zLn_76, zK_77, zLn_77, zK_78, zLn_78, zK_79, zLn_79, zK_80, zLn_80, zK_81, zLn_81, hm]
  refine ⟨fun _ => ?_, fun z => absurd (nI_lt (a := 0) (by omega) (by omega)) z⟩
  refine ycall (c_undo_ok _ hT hW hW' hl hl12 hS hN) ?_
  rintro _ σ1 ⟨rfl, h1, h2⟩
  simp only [Option.toList_none, List.nil_append]
  have e1 : σ1.1 24 8 = nI l.length := h1.1.2.2.2
  rw [g65_20]
  simp only [g65_21, g65_24, g65_27, zldI, zldJ, zldR, zlk, zs1, zc1, zs2, zc2, Value.category, zdup_i, zdup_r, zdup2_i, zdup2_l, zrcv, zrm, ↓reduceIte, Nat.reduceAdd, Nat.reduceEqDiff, Nat.reduceLeDiff, Nat.reduceMul, and_false, false_and, and_true, true_and, List.map_cons, List.map_nil, List.sum_cons, List.sum_nil, Option.toList_some, Option.toList_none, List.cons_append, List.nil_append, or_true, true_or, or_false, false_or, Nat.add_zero, Nat.zero_add, Nat.one_ne_zero, Nat.zero_ne_one, not_false_eq_true, not_true_eq_false, implies_true, forall_const, exists_eq_left, reduceCtorEq, false_implies, true_implies, wA1, wA2, wI1, wI2, wJ1, wJ2, wJ3, wR1, wR2, wR31, wR32, zK_0, zfv_0_0, zfv_0_1, zfv_0_2, zfv_0_3, zfv_0_4, zfv_0_5, zfv_0_6, zfv_0_7, zfv_0_8, zfv_0_9, zK_1, zfv_1_0, zfv_1_1, zfv_1_2, zfv_1_3, zfv_1_4, zfv_1_5, zfv_1_6, zK_2, zLn_2, zK_3, zLn_3, zK_4, zfv_4_0, zfv_4_1, zfv_4_2, zfv_4_3, zfv_4_4, zfv_4_5, zfv_4_6, zfv_4_7, zfv_4_8, zfv_4_9, zfv_4_10, zfv_4_11, zK_5, zLn_5, zK_6, zLn_6, zK_7, zLn_7, zK_8, zLn_8, zK_9, zLn_9, zK_10, zLn_10, zK_11, zLn_11, zK_12, zLn_12, zK_13, zLn_13, zK_14, zfv_14_0, zfv_14_1, zfv_14_2, zfv_14_3, zfv_14_4, zfv_14_5, zfv_14_6, zfv_14_7, zfv_14_8, zfv_14_9, zfv_14_10, zfv_14_11, zK_15, zLn_15, zK_16, zLn_16, zK_17, zLn_17, zK_18, zLn_18, zK_19, zLn_19, zK_20, zLn_20, zK_21, zLn_21, zK_22, zLn_22, zK_23, zLn_23, zK_24, zfv_24_0, zfv_24_1, zfv_24_2, zfv_24_3, zfv_24_4, zfv_24_5, zfv_24_6, zfv_24_7, zfv_24_8, zfv_24_9, zK_25, zLn_25, zK_26, zLn_26, zK_27, zLn_27, zK_28, zLn_28, zK_29, zLn_29, zK_30, zLn_30, zK_31, zfv_31_0, zfv_31_1, zfv_31_2, zfv_31_3, zfv_31_4, zfv_31_5, zfv_31_6, zfv_31_7, zfv_31_8, zfv_31_9, zK_32, zLn_32, zK_33, zLn_33, zK_34, zLn_34, zK_35, zLn_35, zK_36, zLn_36, zK_37, zLn_37, zK_38, zfv_38_0, zfv_38_1, zfv_38_2, zfv_38_3, zfv_38_4, zfv_38_5, zfv_38_6, zfv_38_7, zfv_38_8, zfv_38_9, zK_39, zLn_39, zK_40, zLn_40, zK_41, zLn_41, zK_42, zLn_42, zK_43, zLn_43, zK_44, zLn_44, zK_45, zLn_45, zK_46, zLn_46, zK_47, zfv_47_0, zfv_47_1, zfv_47_2, zfv_47_3, zfv_47_4, zfv_47_5, zfv_47_6, zK_48, zLn_48, zK_49, zLn_49, zK_50, zLn_50, zK_51, zLn_51, zK_52, zLn_52, zK_53, zLn_53, zK_54, zLn_54, zK_55, zLn_55, zK_56, zLn_56, zK_57, zLn_57, zK_58, zLn_58, zK_59, zLn_59, zK_60, zfv_60_0, zfv_60_1, zfv_60_2, zK_61, zLn_61, zK_62, zfv_62_0, zK_63, zLn_63, zK_64, zfv_64_0, zfv_64_1, zfv_64_2, zfv_64_3, zfv_64_4, zfv_64_5, zfv_64_6, zfv_64_7, zfv_64_8, zfv_64_9, zfv_64_10, zfv_64_11, zfv_64_12, zfv_64_13, zfv_64_14, zfv_64_15, zfv_64_16, zfv_64_17, zfv_64_18, zfv_64_19, zfv_64_20, zfv_64_21, zfv_64_22, zfv_64_23, zfv_64_24, zfv_64_25, zfv_64_26, zfv_64_27, zK_65, zLn_65, zK_66, zLn_66, zK_67, zLn_67, zK_68, zLn_68, zK_69, zLn_69, zK_70, zLn_70, zK_71, zLn_71, zK_72, zLn_72, zK_73, zLn_73, zK_74, zLn_74, zK_75, zLn_75, zK_76, zLn_76, zK_77, zLn_77, zK_78, zLn_78, zK_79, zLn_79, zK_80, zLn_80, zK_81, zLn_81, e1]
  exact ⟨h1, h2⟩
set_option maxHeartbeats 1000000 in
theorem c_undo_no (d : Nat) (hN : RNc 24 ν σ) (hl : nE ν = []) : yC (d + 4) 65 [.ref 0] σ (fun r σ' => r = some (.int (-2)) ∧ σ' = σ) := by
  have hm : σ.1 24 8 = 0 := by
    rw [hN.1.2.2.2, hl]
    rfl
  refine C65 (Nat.le_of_ble_eq_true rfl) ?_
  simp only [lv_args, Value.category]
  rw [g65_0]
  simp only [g65_1, g65_4, g65_7, g65_10, g65_12, g65_13, g65_14, g65_17, zldI, zldJ, zldR, zlk, zs1, zc1, zs2, zc2, Value.category, zdup_i, zdup_r, zdup2_i, zdup2_l, zrcv, zrm, ↓reduceIte, Nat.reduceAdd, Nat.reduceEqDiff, Nat.reduceLeDiff, Nat.reduceMul, and_false, false_and, and_true, true_and, List.map_cons, List.map_nil, List.sum_cons, List.sum_nil, Option.toList_some, Option.toList_none, List.cons_append, List.nil_append, or_true, true_or, or_false, false_or, Nat.add_zero, Nat.zero_add, Nat.one_ne_zero, Nat.zero_ne_one, not_false_eq_true, not_true_eq_false, implies_true, forall_const, exists_eq_left, reduceCtorEq, false_implies, true_implies, wA1, wA2, wI1, wI2, wJ1, wJ2, wJ3, wR1, wR2, wR31, wR32, zK_0, zfv_0_0, zfv_0_1, zfv_0_2, zfv_0_3, zfv_0_4, zfv_0_5, zfv_0_6, zfv_0_7, zfv_0_8, zfv_0_9, zK_1, zfv_1_0, zfv_1_1, zfv_1_2, zfv_1_3, zfv_1_4, zfv_1_5, zfv_1_6, zK_2, zLn_2, zK_3, zLn_3, zK_4, zfv_4_0, zfv_4_1, zfv_4_2, zfv_4_3, zfv_4_4, zfv_4_5, zfv_4_6, zfv_4_7, zfv_4_8, zfv_4_9, zfv_4_10, zfv_4_11, zK_5, zLn_5, zK_6, zLn_6, zK_7, zLn_7, zK_8, zLn_8, zK_9, zLn_9, zK_10, zLn_10, zK_11, zLn_11, zK_12, zLn_12, zK_13, zLn_13, zK_14, zfv_14_0, zfv_14_1, zfv_14_2, zfv_14_3, zfv_14_4, zfv_14_5, zfv_14_6, zfv_14_7, zfv_14_8, zfv_14_9, zfv_14_10, zfv_14_11, zK_15, zLn_15, zK_16, zLn_16, zK_17, zLn_17, zK_18, zLn_18, zK_19, zLn_19, zK_20, zLn_20, zK_21, zLn_21, zK_22, zLn_22, zK_23, zLn_23, zK_24, zfv_24_0, zfv_24_1, zfv_24_2, zfv_24_3, zfv_24_4, zfv_24_5, zfv_24_6, zfv_24_7, zfv_24_8, zfv_24_9, zK_25, zLn_25, zK_26, zLn_26, zK_27, zLn_27, zK_28, zLn_28, zK_29, zLn_29, zK_30, zLn_30, zK_31, zfv_31_0, zfv_31_1, zfv_31_2, zfv_31_3, zfv_31_4, zfv_31_5, zfv_31_6, zfv_31_7, zfv_31_8, zfv_31_9, zK_32, zLn_32, zK_33, zLn_33, zK_34, zLn_34, zK_35, zLn_35, zK_36, zLn_36, zK_37, zLn_37, zK_38, zfv_38_0, zfv_38_1, zfv_38_2, zfv_38_3, zfv_38_4, zfv_38_5, zfv_38_6, zfv_38_7, zfv_38_8, zfv_38_9, zK_39, zLn_39, zK_40, zLn_40, zK_41, zLn_41, zK_42, zLn_42, zK_43, zLn_43, zK_44, zLn_44, zK_45, zLn_45, zK_46, zLn_46, zK_47, zfv_47_0, zfv_47_1, zfv_47_2, zfv_47_3, zfv_47_4, zfv_47_5, zfv_47_6, zK_48, zLn_48, zK_49, zLn_49, zK_50, zLn_50, zK_51, zLn_51, zK_52, zLn_52, zK_53, zLn_53, zK_54, zLn_54, zK_55, zLn_55, zK_56, zLn_56, zK_57, zLn_57, zK_58, zLn_58, zK_59, zLn_59, zK_60, zfv_60_0, zfv_60_1, zfv_60_2, zK_61, zLn_61, zK_62, zfv_62_0, zK_63, zLn_63, zK_64, zfv_64_0, zfv_64_1, zfv_64_2, zfv_64_3, zfv_64_4, zfv_64_5, zfv_64_6, zfv_64_7, zfv_64_8, zfv_64_9, zfv_64_10, zfv_64_11, zfv_64_12, zfv_64_13, zfv_64_14, zfv_64_15, zfv_64_16, zfv_64_17, zfv_64_18, zfv_64_19, zfv_64_20, zfv_64_21, zfv_64_22, zfv_64_23, zfv_64_24, zfv_64_25, zfv_64_26, zfv_64_27, zK_65, zLn_65, zK_66, zLn_66, zK_67, zLn_67, zK_68, zLn_68, zK_69, zLn_69, zK_70, zLn_70, zK_71, zLn_71, zK_72, zLn_72, zK_73, zLn_73, zK_74, zLn_74, zK_75, zLn_75, zK_76, zLn_76, zK_77, zLn_77, zK_78, zLn_78, zK_79, zLn_79, zK_80, zLn_80, zK_81, zLn_81, hm]
  exact fun z => absurd z (by decide)
set_option maxHeartbeats 1000000 in
theorem m_undo_no (d : Nat) (hw : Rw 0 ν (σ.1 65)) (hl : nE ν = []) : yC (d + 4) 116 [.ref 64] σ (fun r σ' => r = some (.int (-2)) ∧ σ' = σ) := by
  have c43 : Int32.toNatClampNeg 43 = 43 := by decide
  have hm : σ.1 65 43 = 0 := by
    have := hw.1.2.2.2
    simp only [Nat.zero_add] at this
    rw [this, hl]
    rfl
  refine C116 (Nat.le_of_ble_eq_true rfl) ?_
  simp only [lv_args, Value.category]
  rw [g116_0]
  simp only [g116_1, g116_4, g116_6, g116_7, g116_10, g116_12, zldI, zldJ, zldR, zlk, zs1, zc1, zs2, zc2, Value.category, zdup_i, zdup_r, zdup2_i, zdup2_l, zrcv, zrm, ↓reduceIte, Nat.reduceAdd, Nat.reduceEqDiff, Nat.reduceLeDiff, Nat.reduceMul, and_false, false_and, and_true, true_and, List.map_cons, List.map_nil, List.sum_cons, List.sum_nil, Option.toList_some, Option.toList_none, List.cons_append, List.nil_append, or_true, true_or, or_false, false_or, Nat.add_zero, Nat.zero_add, Nat.one_ne_zero, Nat.zero_ne_one, not_false_eq_true, not_true_eq_false, implies_true, forall_const, exists_eq_left, reduceCtorEq, false_implies, true_implies, wA1, wA2, wI1, wI2, wJ1, wJ2, wJ3, wR1, wR2, wR31, wR32, zK_0, zfv_0_0, zfv_0_1, zfv_0_2, zfv_0_3, zfv_0_4, zfv_0_5, zfv_0_6, zfv_0_7, zfv_0_8, zfv_0_9, zK_1, zfv_1_0, zfv_1_1, zfv_1_2, zfv_1_3, zfv_1_4, zfv_1_5, zfv_1_6, zK_2, zLn_2, zK_3, zLn_3, zK_4, zfv_4_0, zfv_4_1, zfv_4_2, zfv_4_3, zfv_4_4, zfv_4_5, zfv_4_6, zfv_4_7, zfv_4_8, zfv_4_9, zfv_4_10, zfv_4_11, zK_5, zLn_5, zK_6, zLn_6, zK_7, zLn_7, zK_8, zLn_8, zK_9, zLn_9, zK_10, zLn_10, zK_11, zLn_11, zK_12, zLn_12, zK_13, zLn_13, zK_14, zfv_14_0, zfv_14_1, zfv_14_2, zfv_14_3, zfv_14_4, zfv_14_5, zfv_14_6, zfv_14_7, zfv_14_8, zfv_14_9, zfv_14_10, zfv_14_11, zK_15, zLn_15, zK_16, zLn_16, zK_17, zLn_17, zK_18, zLn_18, zK_19, zLn_19, zK_20, zLn_20, zK_21, zLn_21, zK_22, zLn_22, zK_23, zLn_23, zK_24, zfv_24_0, zfv_24_1, zfv_24_2, zfv_24_3, zfv_24_4, zfv_24_5, zfv_24_6, zfv_24_7, zfv_24_8, zfv_24_9, zK_25, zLn_25, zK_26, zLn_26, zK_27, zLn_27, zK_28, zLn_28, zK_29, zLn_29, zK_30, zLn_30, zK_31, zfv_31_0, zfv_31_1, zfv_31_2, zfv_31_3, zfv_31_4, zfv_31_5, zfv_31_6, zfv_31_7, zfv_31_8, zfv_31_9, zK_32, zLn_32, zK_33, zLn_33, zK_34, zLn_34, zK_35, zLn_35, zK_36, zLn_36, zK_37, zLn_37, zK_38, zfv_38_0, zfv_38_1, zfv_38_2, zfv_38_3, zfv_38_4, zfv_38_5, zfv_38_6, zfv_38_7, zfv_38_8, zfv_38_9, zK_39, zLn_39, zK_40, zLn_40, zK_41, zLn_41, zK_42, zLn_42, zK_43, zLn_43, zK_44, zLn_44, zK_45, zLn_45, zK_46, zLn_46, zK_47, zfv_47_0, zfv_47_1, zfv_47_2, zfv_47_3, zfv_47_4, zfv_47_5, zfv_47_6, zK_48, zLn_48, zK_49, zLn_49, zK_50, zLn_50, zK_51, zLn_51, zK_52, zLn_52, zK_53, zLn_53, zK_54, zLn_54, zK_55, zLn_55, zK_56, zLn_56, zK_57, zLn_57, zK_58, zLn_58, zK_59, zLn_59, zK_60, zfv_60_0, zfv_60_1, zfv_60_2, zK_61, zLn_61, zK_62, zfv_62_0, zK_63, zLn_63, zK_64, zfv_64_0, zfv_64_1, zfv_64_2, zfv_64_3, zfv_64_4, zfv_64_5, zfv_64_6, zfv_64_7, zfv_64_8, zfv_64_9, zfv_64_10, zfv_64_11, zfv_64_12, zfv_64_13, zfv_64_14, zfv_64_15, zfv_64_16, zfv_64_17, zfv_64_18, zfv_64_19, zfv_64_20, zfv_64_21, zfv_64_22, zfv_64_23, zfv_64_24, zfv_64_25, zfv_64_26, zfv_64_27, zK_65, zLn_65, zK_66, zLn_66, zK_67, zLn_67, zK_68, zLn_68, zK_69, zLn_69, zK_70, zLn_70, zK_71, zLn_71, zK_72, zLn_72, zK_73, zLn_73, zK_74, zLn_74, zK_75, zLn_75, zK_76, zLn_76, zK_77, zLn_77, zK_78, zLn_78, zK_79, zLn_79, zK_80, zLn_80, zK_81, zLn_81, c43, hm]
  exact (show vp_in 43 300 by unfold vp_in; decide)
theorem c_remove2 (d : Nat) {p j a : Nat} (hT : WfT τ) (hW : WfN τ ν) (hw : Rw 0 ν (σ.1 65)) (h : (nS ν p)[j]? = some a) : yC (d + 2) 110 [.ref 64, .int (nI p), .int (nI a)] σ (fun r σ' => r = none ∧ PW (nDel ν p j) σ σ' ∧ ∀ k, 43 ≤ k → σ'.1 65 k = σ.1 65 k) := by
  obtain ⟨hp4, ha8, haA, hpP, hjl, hl5, hfa, hf1, hc, hit, hno⟩ := ypin hT hW hw h
  obtain ⟨n, hn⟩ : ∃ n, (nS ν p).length = n + 1 := ⟨(nS ν p).length - 1, by omega⟩
  refine (c_removeM d σ a p j n ha8 hp4 (by omega) (by rw [hc, hn]) (by omega) hit hno).mono ?_
  rintro r σ' ⟨rfl, rfl⟩
  refine ⟨rfl, ⟨_, rfl, Rw_del hw (xl5 hT hW) hn (by omega) hp4, fun k hk => ?_⟩, fun k hk => ?_⟩
  · unfold shl
    rw [if_neg (by omega), pk_un (by omega)]
  · rw [wA1, if_pos rfl]
    unfold shl
    rw [if_neg (by omega), pk_un (by omega)]
theorem Rw_sub {ν : aN} {f : Nat → Int32} {v : Int32} (h : Rw 0 ν f) : Rw 0 (wLo ν (nL ν - v)) (upd f 2 (f 2 - v)) := by
  obtain ⟨r1, r2, r3, r4⟩ := h
  simp only [Nat.zero_add] at r1 r2 r3 r4
  refine ⟨?_, fun x hx => ?_, fun p hp => ⟨?_, fun i y hi => ?_⟩, fun k e hk => ?_⟩
  · simp only [Nat.zero_add]
    rw [pk_us]
    repeat rw [pk_un (by omega)]
    exact ⟨r1.1, r1.2.1, by rw [r1.2.2.1]; rfl, r1.2.2.2⟩
  · simp only [Nat.zero_add]
    repeat rw [pk_un (by omega)]
    exact r2 x hx
  · simp only [Nat.zero_add]
    rw [pk_un (by omega)]
    exact (r3 p hp).1
  · simp only [Nat.zero_add]
    rw [pk_un (by omega)]
    exact (r3 p hp).2 i y hi
  · simp only [Nat.zero_add]
    repeat rw [pk_un (by omega)]
    exact r4 k e hk
theorem Rw_pop {ν : aN} {f : Nat → Int32} {l : List aD} {e : aD} (hl : ∀ p, (nS ν p).length ≤ 5) (h : Rw 0 ν f) (hE : nE ν = l ++ [e]) : Rw 0 (wE ν l) (upd f 43 (nI l.length)) := by
  obtain ⟨r1, r2, r3, r4⟩ := h
  simp only [Nat.zero_add] at r1 r2 r3 r4
  refine ⟨?_, fun x hx => ?_, fun p hp => ⟨?_, fun i y hi => ?_⟩, fun k d hk => ?_⟩
  · simp only [Nat.zero_add]
    rw [pk_us]
    repeat rw [pk_un (by omega)]
    exact ⟨r1.1, r1.2.1, r1.2.2.1, rfl⟩
  · simp only [Nat.zero_add]
    repeat rw [pk_un (by omega)]
    exact r2 x hx
  · simp only [Nat.zero_add]
    rw [pk_un (by omega)]
    exact (r3 p hp).1
  · have hil : i < (nS ν p).length := (List.getElem?_eq_some_iff.mp hi).1
    have := hl p
    simp only [Nat.zero_add]
    rw [pk_un (by omega)]
    exact (r3 p hp).2 i y hi
  · have hk : l[k]? = some d := hk
    simp only [Nat.zero_add]
    repeat rw [pk_un (by omega)]
    refine r4 k d ?_
    rw [hE, List.getElem?_append_left (List.getElem?_eq_some_iff.mp hk).1]
    exact hk
set_option maxHeartbeats 4000000 in
theorem m_undo (d : Nat) {l : List aD} {e : aD} (hT : WfT τ) (hR : RTm τ σ) (hW : WfN τ ν) (hW' : WfN τ ν') (hl : nE ν = l ++ [e]) (hl12 : l.length < 12) (hS : Step τ ν' e ν) (hw : Rw 0 ν (σ.1 65)) :
    yC (d + 4) 116 [.ref 64] σ (fun r σ' => r = some (.int (nI l.length)) ∧ PW (wE ν' l) σ σ') := by
  have hA8 : tA τ ≤ 8 := hT.2.1
  have hP4 : tP τ ≤ 4 := hT.1
  have c43 : Int32.toNatClampNeg 43 = 43 := by decide
  have c2 : Int32.toNatClampNeg 2 = 2 := by decide
  have hl5 := xl5 hT hW
  obtain ⟨w1, w2, w3, w4, w5, w6, w7, w8⟩ := id hW'
  have hm : σ.1 65 43 = nI (l.length + 1) := by
    have := hw.1.2.2.2
    simp only [Nat.zero_add] at this
    rw [this, hl, List.length_append]
    rfl
  have hrow := hw.2.2.2 l.length e (by
    rw [hl, List.getElem?_append_right (Nat.le_refl _), Nat.sub_self]
    rfl)
  simp only [Nat.zero_add] at hrow
  obtain ⟨b0, b1, b2, b3⟩ := hrow
  have hP1 : PW (wE ν l) σ (zwI σ 65 43 (nI l.length)) := (PW.rf hw).I (by decide) (fun q => Rw_pop hl5 q hl)
  have a0 : upd (σ.1 65) 43 (nI l.length) (44 + 4 * l.length) = nI e.1 := by rw [pk_un (by omega)]; exact b0
  have a1 : upd (σ.1 65) 43 (nI l.length) (44 + 4 * l.length + 1) = nI e.2.1 := by rw [pk_un (by omega)]; exact b1
  have a2 : upd (σ.1 65) 43 (nI l.length) (44 + 4 * l.length + 2) = nI e.2.2.1 := by rw [pk_un (by omega)]; exact b2
  have a3 : upd (σ.1 65) 43 (nI l.length) (44 + 4 * l.length + 3) = nI e.2.2.2.1 := by rw [pk_un (by omega)]; exact b3
  obtain ⟨s, a, p, j, u, lo⟩ := e
  dsimp only at a0 a1 a2 a3
  have hz : ¬ nI (l.length + 1) = 0 := nI_ne0 (by omega) (by omega)
  refine C116 (Nat.le_of_ble_eq_true rfl) ?_
  simp only [lv_args, Value.category]
  -- the end: insert, lost
  have E : ∀ (Y : aN) (σ3 : zSt), PW Y σ σ3 → (∀ q, (nS Y q).length ≤ 5) → σ3.1 65 (44 + 4 * l.length + 2) = nI p → σ3.1 65 (44 + 4 * l.length + 3) = nI j → nE Y = l → p < 4 → a < tA τ → (nS Y p).length < 5 → j ≤ (nS Y p).length → s ≤ 3 → wLo (nIns Y a p j) (nL Y - (if s = 2 then nI (τ.2 6 a) else 0)) = wE ν' l → Y116 (d + 3) (fun r σ' => r = some (.int (nI l.length)) ∧ PW (wE ν' l) σ σ') 112 [(0, .ref 64), (1, .int (nI (44 + 4 * l.length))), (2, .int (nI s)), (3, .int (nI a))] [] σ3 := by
    intro Y σ3 h3 hY5 e2 e3 hYE hp4 haA hn5 hjn hs3 hfin
    rw [g116_112]
    simp only [g116_113, g116_114, g116_117, g116_118, g116_119, g116_120, g116_121, g116_122, g116_125, g116_126, g116_127, g116_128, g116_129, g116_130, zldI, zldJ, zldR, zlk, zs1, zc1, zs2, zc2, Value.category, zdup_i, zdup_r, zdup2_i, zdup2_l, zrcv, zrm, ↓reduceIte, Nat.reduceAdd, Nat.reduceEqDiff, Nat.reduceLeDiff, Nat.reduceMul, and_false, false_and, and_true, true_and, List.map_cons, List.map_nil, List.sum_cons, List.sum_nil, Option.toList_some, Option.toList_none, List.cons_append, List.nil_append, or_true, true_or, or_false, false_or, Nat.add_zero, Nat.zero_add, Nat.one_ne_zero, Nat.zero_ne_one, not_false_eq_true, not_true_eq_false, implies_true, forall_const, exists_eq_left, reduceCtorEq, false_implies, true_implies, wA1, wA2, wI1, wI2, wJ1, wJ2, wJ3, wR1, wR2, wR31, wR32, zK_0, zfv_0_0, zfv_0_1, zfv_0_2, zfv_0_3, zfv_0_4, zfv_0_5, zfv_0_6, zfv_0_7, zfv_0_8, zfv_0_9, zK_1, zfv_1_0, zfv_1_1, zfv_1_2, zfv_1_3, zfv_1_4, zfv_1_5, zfv_1_6, zK_2, zLn_2, zK_3, zLn_3, zK_4, zfv_4_0, zfv_4_1, zfv_4_2, zfv_4_3, zfv_4_4, zfv_4_5, zfv_4_6, zfv_4_7, zfv_4_8, zfv_4_9, zfv_4_10, zfv_4_11, zK_5, zLn_5, zK_6, zLn_6, zK_7, zLn_7, zK_8, zLn_8, zK_9, zLn_9, zK_10, zLn_10, zK_11, zLn_11, zK_12, zLn_12, zK_13, zLn_13, zK_14, zfv_14_0, zfv_14_1, zfv_14_2, zfv_14_3, zfv_14_4, zfv_14_5, zfv_14_6, zfv_14_7, zfv_14_8, zfv_14_9, zfv_14_10, zfv_14_11, zK_15, zLn_15, zK_16, zLn_16, zK_17, zLn_17, zK_18, zLn_18, zK_19, zLn_19, zK_20, zLn_20, zK_21, zLn_21, zK_22, zLn_22, zK_23, zLn_23, zK_24, zfv_24_0, zfv_24_1, zfv_24_2, zfv_24_3, zfv_24_4, zfv_24_5, zfv_24_6, zfv_24_7, zfv_24_8, zfv_24_9, zK_25, zLn_25, zK_26, zLn_26, zK_27, zLn_27, zK_28, zLn_28, zK_29, zLn_29, zK_30, zLn_30, zK_31, zfv_31_0, zfv_31_1, zfv_31_2, zfv_31_3, zfv_31_4, zfv_31_5, zfv_31_6, zfv_31_7, zfv_31_8, zfv_31_9, zK_32, zLn_32, zK_33, zLn_33, zK_34, zLn_34, zK_35, zLn_35, zK_36, zLn_36, zK_37, zLn_37, zK_38, zfv_38_0, zfv_38_1, zfv_38_2, zfv_38_3, zfv_38_4, zfv_38_5, zfv_38_6, zfv_38_7, zfv_38_8, zfv_38_9, zK_39, zLn_39, zK_40, zLn_40, zK_41, zLn_41, zK_42, zLn_42, zK_43, zLn_43, zK_44, zLn_44, zK_45, zLn_45, zK_46, zLn_46, zK_47, zfv_47_0, zfv_47_1, zfv_47_2, zfv_47_3, zfv_47_4, zfv_47_5, zfv_47_6, zK_48, zLn_48, zK_49, zLn_49, zK_50, zLn_50, zK_51, zLn_51, zK_52, zLn_52, zK_53, zLn_53, zK_54, zLn_54, zK_55, zLn_55, zK_56, zLn_56, zK_57, zLn_57, zK_58, zLn_58, zK_59, zLn_59, zK_60, zfv_60_0, zfv_60_1, zfv_60_2, zK_61, zLn_61, zK_62, zfv_62_0, zK_63, zLn_63, zK_64, zfv_64_0, zfv_64_1, zfv_64_2, zfv_64_3, zfv_64_4, zfv_64_5, zfv_64_6, zfv_64_7, zfv_64_8, zfv_64_9, zfv_64_10, zfv_64_11, zfv_64_12, zfv_64_13, zfv_64_14, zfv_64_15, zfv_64_16, zfv_64_17, zfv_64_18, zfv_64_19, zfv_64_20, zfv_64_21, zfv_64_22, zfv_64_23, zfv_64_24, zfv_64_25, zfv_64_26, zfv_64_27, zK_65, zLn_65, zK_66, zLn_66, zK_67, zLn_67, zK_68, zLn_68, zK_69, zLn_69, zK_70, zLn_70, zK_71, zLn_71, zK_72, zLn_72, zK_73, zLn_73, zK_74, zLn_74, zK_75, zLn_75, zK_76, zLn_76, zK_77, zLn_77, zK_78, zLn_78, zK_79, zLn_79, zK_80, zLn_80, zK_81, zLn_81, xa2, xa3, nI_clamp (show 44 + 4 * l.length + 2 < 2 ^ 31 by omega), nI_clamp (show 44 + 4 * l.length + 3 < 2 ^ 31 by omega), e2, e3]
    refine ⟨vp_in_nI (by omega) (by decide), vp_in_nI (by omega) (by decide), ?_⟩
    refine ycall (c_insert _ hT hY5 h3.w (show a < 8 by omega) hp4 hn5 hjn) ?_
    rintro _ σ4 ⟨rfl, h4⟩
    simp only [Option.toList_none, List.nil_append]
    have h5 := h3.trans h4
    have k4 := (yask (h5.RT hR) haA).2.2.2.1
    have hlo : ∀ v, (zwI σ4 65 2 (σ4.1 65 2 - v)).1 65 43 = nI l.length := by
      intro v
      rw [wI1, if_pos rfl, pk_un (by omega)]
      have := h4.w.1.2.2.2
      simp only [Nat.zero_add] at this
      rw [this]
      show nI (nE Y).length = _
      rw [hYE]
    by_cases hs2 : s = 2
    · subst hs2
      have e9 : (nI 2 : Int32) = 2 := rfl
      rw [g116_133]
      simp only [g116_134, g116_137, g116_138, g116_139, g116_140, g116_141, g116_142, g116_145, g116_146, g116_149, g116_150, g116_151, g116_152, g116_153, g116_154, g116_155, g116_158, g116_159, g116_160, g116_161, g116_162, g116_165, g116_167, g116_168, zldI, zldJ, zldR, zlk, zs1, zc1, zs2, zc2, Value.category, zdup_i, zdup_r, zdup2_i, zdup2_l, zrcv, zrm, ↓reduceIte, Nat.reduceAdd, Nat.reduceEqDiff, Nat.reduceLeDiff, Nat.reduceMul, and_false, false_and, and_true, true_and, List.map_cons, List.map_nil, List.sum_cons, List.sum_nil, Option.toList_some, Option.toList_none, List.cons_append, List.nil_append, or_true, true_or, or_false, false_or, Nat.add_zero, Nat.zero_add, Nat.one_ne_zero, Nat.zero_ne_one, not_false_eq_true, not_true_eq_false, implies_true, forall_const, exists_eq_left, reduceCtorEq, false_implies, true_implies, wA1, wA2, wI1, wI2, wJ1, wJ2, wJ3, wR1, wR2, wR31, wR32, zK_0, zfv_0_0, zfv_0_1, zfv_0_2, zfv_0_3, zfv_0_4, zfv_0_5, zfv_0_6, zfv_0_7, zfv_0_8, zfv_0_9, zK_1, zfv_1_0, zfv_1_1, zfv_1_2, zfv_1_3, zfv_1_4, zfv_1_5, zfv_1_6, zK_2, zLn_2, zK_3, zLn_3, zK_4, zfv_4_0, zfv_4_1, zfv_4_2, zfv_4_3, zfv_4_4, zfv_4_5, zfv_4_6, zfv_4_7, zfv_4_8, zfv_4_9, zfv_4_10, zfv_4_11, zK_5, zLn_5, zK_6, zLn_6, zK_7, zLn_7, zK_8, zLn_8, zK_9, zLn_9, zK_10, zLn_10, zK_11, zLn_11, zK_12, zLn_12, zK_13, zLn_13, zK_14, zfv_14_0, zfv_14_1, zfv_14_2, zfv_14_3, zfv_14_4, zfv_14_5, zfv_14_6, zfv_14_7, zfv_14_8, zfv_14_9, zfv_14_10, zfv_14_11, zK_15, zLn_15, zK_16, zLn_16, zK_17, zLn_17, zK_18, zLn_18, zK_19, zLn_19, zK_20, zLn_20, zK_21, zLn_21, zK_22, zLn_22, zK_23, zLn_23, zK_24, zfv_24_0, zfv_24_1, zfv_24_2, zfv_24_3, zfv_24_4, zfv_24_5, zfv_24_6, zfv_24_7, zfv_24_8, zfv_24_9, zK_25, zLn_25, zK_26, zLn_26, zK_27, zLn_27, zK_28, zLn_28, zK_29, zLn_29, zK_30, zLn_30, zK_31, zfv_31_0, zfv_31_1, zfv_31_2, zfv_31_3, zfv_31_4, zfv_31_5, zfv_31_6, zfv_31_7, zfv_31_8, zfv_31_9, zK_32, zLn_32, zK_33, zLn_33, zK_34, zLn_34, zK_35, zLn_35, zK_36, zLn_36, zK_37, zLn_37, zK_38, zfv_38_0, zfv_38_1, zfv_38_2, zfv_38_3, zfv_38_4, zfv_38_5, zfv_38_6, zfv_38_7, zfv_38_8, zfv_38_9, zK_39, zLn_39, zK_40, zLn_40, zK_41, zLn_41, zK_42, zLn_42, zK_43, zLn_43, zK_44, zLn_44, zK_45, zLn_45, zK_46, zLn_46, zK_47, zfv_47_0, zfv_47_1, zfv_47_2, zfv_47_3, zfv_47_4, zfv_47_5, zfv_47_6, zK_48, zLn_48, zK_49, zLn_49, zK_50, zLn_50, zK_51, zLn_51, zK_52, zLn_52, zK_53, zLn_53, zK_54, zLn_54, zK_55, zLn_55, zK_56, zLn_56, zK_57, zLn_57, zK_58, zLn_58, zK_59, zLn_59, zK_60, zfv_60_0, zfv_60_1, zfv_60_2, zK_61, zLn_61, zK_62, zfv_62_0, zK_63, zLn_63, zK_64, zfv_64_0, zfv_64_1, zfv_64_2, zfv_64_3, zfv_64_4, zfv_64_5, zfv_64_6, zfv_64_7, zfv_64_8, zfv_64_9, zfv_64_10, zfv_64_11, zfv_64_12, zfv_64_13, zfv_64_14, zfv_64_15, zfv_64_16, zfv_64_17, zfv_64_18, zfv_64_19, zfv_64_20, zfv_64_21, zfv_64_22, zfv_64_23, zfv_64_24, zfv_64_25, zfv_64_26, zfv_64_27, zK_65, zLn_65, zK_66, zLn_66, zK_67, zLn_67, zK_68, zLn_68, zK_69, zLn_69, zK_70, zLn_70, zK_71, zLn_71, zK_72, zLn_72, zK_73, zLn_73, zK_74, zLn_74, zK_75, zLn_75, zK_76, zLn_76, zK_77, zLn_77, zK_78, zLn_78, zK_79, zLn_79, zK_80, zLn_80, zK_81, zLn_81, c2, c43, y5, xa3, nI_clamp (show 5 * a + 3 < 2 ^ 31 by omega), k4, e9]
      have hl9 := hlo (nI (τ.2 6 a))
      rw [wI1, if_pos rfl] at hl9
      rw [hl9]
      refine ⟨by unfold vp_in; decide, vp_in_nI (by omega) (by decide), by unfold vp_in; decide, by unfold vp_in; decide, rfl, ?_⟩
      rw [← hfin]
      exact h5.I (by decide) (fun q => Rw_sub q)
    · have hs9 : ¬ nI s = 2 := fun z => hs2 ((nI_eq (b := 2) (by omega) (by decide)).mp z)
      rw [g116_133]
      simp only [g116_134, g116_137, g116_138, g116_139, g116_140, g116_141, g116_142, g116_145, g116_146, g116_149, g116_150, g116_151, g116_152, g116_153, g116_154, g116_155, g116_158, g116_159, g116_160, g116_161, g116_162, g116_165, g116_167, g116_168, zldI, zldJ, zldR, zlk, zs1, zc1, zs2, zc2, Value.category, zdup_i, zdup_r, zdup2_i, zdup2_l, zrcv, zrm, ↓reduceIte, Nat.reduceAdd, Nat.reduceEqDiff, Nat.reduceLeDiff, Nat.reduceMul, and_false, false_and, and_true, true_and, List.map_cons, List.map_nil, List.sum_cons, List.sum_nil, Option.toList_some, Option.toList_none, List.cons_append, List.nil_append, or_true, true_or, or_false, false_or, Nat.add_zero, Nat.zero_add, Nat.one_ne_zero, Nat.zero_ne_one, not_false_eq_true, not_true_eq_false, implies_true, forall_const, exists_eq_left, reduceCtorEq, false_implies, true_implies, wA1, wA2, wI1, wI2, wJ1, wJ2, wJ3, wR1, wR2, wR31, wR32, zK_0, zfv_0_0, zfv_0_1, zfv_0_2, zfv_0_3, zfv_0_4, zfv_0_5, zfv_0_6, zfv_0_7, zfv_0_8, zfv_0_9, zK_1, zfv_1_0, zfv_1_1, zfv_1_2, zfv_1_3, zfv_1_4, zfv_1_5, zfv_1_6, zK_2, zLn_2, zK_3, zLn_3, zK_4, zfv_4_0, zfv_4_1, zfv_4_2, zfv_4_3, zfv_4_4, zfv_4_5, zfv_4_6, zfv_4_7, zfv_4_8, zfv_4_9, zfv_4_10, zfv_4_11, zK_5, zLn_5, zK_6, zLn_6, zK_7, zLn_7, zK_8, zLn_8, zK_9, zLn_9, zK_10, zLn_10, zK_11, zLn_11, zK_12, zLn_12, zK_13, zLn_13, zK_14, zfv_14_0, zfv_14_1, zfv_14_2, zfv_14_3, zfv_14_4, zfv_14_5, zfv_14_6, zfv_14_7, zfv_14_8, zfv_14_9, zfv_14_10, zfv_14_11, zK_15, zLn_15, zK_16, zLn_16, zK_17, zLn_17, zK_18, zLn_18, zK_19, zLn_19, zK_20, zLn_20, zK_21, zLn_21, zK_22, zLn_22, zK_23, zLn_23, zK_24, zfv_24_0, zfv_24_1, zfv_24_2, zfv_24_3, zfv_24_4, zfv_24_5, zfv_24_6, zfv_24_7, zfv_24_8, zfv_24_9, zK_25, zLn_25, zK_26, zLn_26, zK_27, zLn_27, zK_28, zLn_28, zK_29, zLn_29, zK_30, zLn_30, zK_31, zfv_31_0, zfv_31_1, zfv_31_2, zfv_31_3, zfv_31_4, zfv_31_5, zfv_31_6, zfv_31_7, zfv_31_8, zfv_31_9, zK_32, zLn_32, zK_33, zLn_33, zK_34, zLn_34, zK_35, zLn_35, zK_36, zLn_36, zK_37, zLn_37, zK_38, zfv_38_0, zfv_38_1, zfv_38_2, zfv_38_3, zfv_38_4, zfv_38_5, zfv_38_6, zfv_38_7, zfv_38_8, zfv_38_9, zK_39, zLn_39, zK_40, zLn_40, zK_41, zLn_41, zK_42, zLn_42, zK_43, zLn_43, zK_44, zLn_44, zK_45, zLn_45, zK_46, zLn_46, zK_47, zfv_47_0, zfv_47_1, zfv_47_2, zfv_47_3, zfv_47_4, zfv_47_5, zfv_47_6, zK_48, zLn_48, zK_49, zLn_49, zK_50, zLn_50, zK_51, zLn_51, zK_52, zLn_52, zK_53, zLn_53, zK_54, zLn_54, zK_55, zLn_55, zK_56, zLn_56, zK_57, zLn_57, zK_58, zLn_58, zK_59, zLn_59, zK_60, zfv_60_0, zfv_60_1, zfv_60_2, zK_61, zLn_61, zK_62, zfv_62_0, zK_63, zLn_63, zK_64, zfv_64_0, zfv_64_1, zfv_64_2, zfv_64_3, zfv_64_4, zfv_64_5, zfv_64_6, zfv_64_7, zfv_64_8, zfv_64_9, zfv_64_10, zfv_64_11, zfv_64_12, zfv_64_13, zfv_64_14, zfv_64_15, zfv_64_16, zfv_64_17, zfv_64_18, zfv_64_19, zfv_64_20, zfv_64_21, zfv_64_22, zfv_64_23, zfv_64_24, zfv_64_25, zfv_64_26, zfv_64_27, zK_65, zLn_65, zK_66, zLn_66, zK_67, zLn_67, zK_68, zLn_68, zK_69, zLn_69, zK_70, zLn_70, zK_71, zLn_71, zK_72, zLn_72, zK_73, zLn_73, zK_74, zLn_74, zK_75, zLn_75, zK_76, zLn_76, zK_77, zLn_77, zK_78, zLn_78, zK_79, zLn_79, zK_80, zLn_80, zK_81, zLn_81, c2, c43, hs9]
      have hl9 := hlo 0
      rw [wI1, if_pos rfl] at hl9
      rw [hl9]
      refine ⟨by unfold vp_in; decide, by unfold vp_in; decide, by unfold vp_in; decide, rfl, ?_⟩
      rw [← hfin, if_neg hs2]
      exact h5.I (by decide) (fun q => Rw_sub q)
  have hzw : ∀ k, (zwI σ 65 43 (nI l.length)).1 65 k = upd (σ.1 65) 43 (nI l.length) k := fun k => rfl
  rw [g116_0]
  simp only [g116_1, g116_4, g116_6, g116_7, g116_10, g116_12, g116_13, g116_14, g116_17, g116_19, g116_20, g116_21, g116_22, g116_23, g116_24, g116_26, g116_27, g116_28, g116_31, g116_33, g116_34, g116_35, g116_36, g116_37, g116_38, g116_41, g116_42, g116_43, g116_44, g116_45, g116_48, g116_49, g116_50, g116_51, g116_52, g116_53, g116_54, g116_57, g116_58, g116_59, g116_62, g116_63, g116_64, g116_65, g116_66, g116_67, zldI, zldJ, zldR, zlk, zs1, zc1, zs2, zc2, Value.category, zdup_i, zdup_r, zdup2_i, zdup2_l, zrcv, zrm, ↓reduceIte, Nat.reduceAdd, Nat.reduceEqDiff, Nat.reduceLeDiff, Nat.reduceMul, and_false, false_and, and_true, true_and, List.map_cons, List.map_nil, List.sum_cons, List.sum_nil, Option.toList_some, Option.toList_none, List.cons_append, List.nil_append, or_true, true_or, or_false, false_or, Nat.add_zero, Nat.zero_add, Nat.one_ne_zero, Nat.zero_ne_one, not_false_eq_true, not_true_eq_false, implies_true, forall_const, exists_eq_left, reduceCtorEq, false_implies, true_implies, wA1, wA2, wI1, wI2, wJ1, wJ2, wJ3, wR1, wR2, wR31, wR32, zK_0, zfv_0_0, zfv_0_1, zfv_0_2, zfv_0_3, zfv_0_4, zfv_0_5, zfv_0_6, zfv_0_7, zfv_0_8, zfv_0_9, zK_1, zfv_1_0, zfv_1_1, zfv_1_2, zfv_1_3, zfv_1_4, zfv_1_5, zfv_1_6, zK_2, zLn_2, zK_3, zLn_3, zK_4, zfv_4_0, zfv_4_1, zfv_4_2, zfv_4_3, zfv_4_4, zfv_4_5, zfv_4_6, zfv_4_7, zfv_4_8, zfv_4_9, zfv_4_10, zfv_4_11, zK_5, zLn_5, zK_6, zLn_6, zK_7, zLn_7, zK_8, zLn_8, zK_9, zLn_9, zK_10, zLn_10, zK_11, zLn_11, zK_12, zLn_12, zK_13, zLn_13, zK_14, zfv_14_0, zfv_14_1, zfv_14_2, zfv_14_3, zfv_14_4, zfv_14_5, zfv_14_6, zfv_14_7, zfv_14_8, zfv_14_9, zfv_14_10, zfv_14_11, zK_15, zLn_15, zK_16, zLn_16, zK_17, zLn_17, zK_18, zLn_18, zK_19, zLn_19, zK_20, zLn_20, zK_21, zLn_21, zK_22, zLn_22, zK_23, zLn_23, zK_24, zfv_24_0, zfv_24_1, zfv_24_2, zfv_24_3, zfv_24_4, zfv_24_5, zfv_24_6, zfv_24_7, zfv_24_8, zfv_24_9, zK_25, zLn_25, zK_26, zLn_26, zK_27, zLn_27, zK_28, zLn_28, zK_29, zLn_29, zK_30, zLn_30, zK_31, zfv_31_0, zfv_31_1, zfv_31_2, zfv_31_3, zfv_31_4, zfv_31_5, zfv_31_6, zfv_31_7, zfv_31_8, zfv_31_9, zK_32, zLn_32, zK_33, zLn_33, zK_34, zLn_34, zK_35, zLn_35, zK_36, zLn_36, zK_37, zLn_37, zK_38, zfv_38_0, zfv_38_1, zfv_38_2, zfv_38_3, zfv_38_4, zfv_38_5, zfv_38_6, zfv_38_7, zfv_38_8, zfv_38_9, zK_39, zLn_39, zK_40, zLn_40, zK_41, zLn_41, zK_42, zLn_42, zK_43, zLn_43, zK_44, zLn_44, zK_45, zLn_45, zK_46, zLn_46, zK_47, zfv_47_0, zfv_47_1, zfv_47_2, zfv_47_3, zfv_47_4, zfv_47_5, zfv_47_6, zK_48, zLn_48, zK_49, zLn_49, zK_50, zLn_50, zK_51, zLn_51, zK_52, zLn_52, zK_53, zLn_53, zK_54, zLn_54, zK_55, zLn_55, zK_56, zLn_56, zK_57, zLn_57, zK_58, zLn_58, zK_59, zLn_59, zK_60, zfv_60_0, zfv_60_1, zfv_60_2, zK_61, zLn_61, zK_62, zfv_62_0, zK_63, zLn_63, zK_64, zfv_64_0, zfv_64_1, zfv_64_2, zfv_64_3, zfv_64_4, zfv_64_5, zfv_64_6, zfv_64_7, zfv_64_8, zfv_64_9, zfv_64_10, zfv_64_11, zfv_64_12, zfv_64_13, zfv_64_14, zfv_64_15, zfv_64_16, zfv_64_17, zfv_64_18, zfv_64_19, zfv_64_20, zfv_64_21, zfv_64_22, zfv_64_23, zfv_64_24, zfv_64_25, zfv_64_26, zfv_64_27, zK_65, zLn_65, zK_66, zLn_66, zK_67, zLn_67, zK_68, zLn_68, zK_69, zLn_69, zK_70, zLn_70, zK_71, zLn_71, zK_72, zLn_72, zK_73, zLn_73, zK_74, zLn_74, zK_75, zLn_75, zK_76, zLn_76, zK_77, zLn_77, zK_78, zLn_78, zK_79, zLn_79, zK_80, zLn_80, zK_81, zLn_81, c43, hm, hz, nI_pred, pk_us, y4, ya44, nI_1, xa2, nI_clamp (show 44 + 4 * l.length < 2 ^ 31 by omega), nI_clamp (show 44 + 4 * l.length + 1 < 2 ^ 31 by omega), nI_clamp (show 44 + 4 * l.length + 2 < 2 ^ 31 by omega), a0, a1, a2]
  refine ⟨by unfold vp_in; decide, by unfold vp_in; decide, by unfold vp_in; decide, by unfold vp_in; decide, vp_in_nI (by omega) (by decide), vp_in_nI (by omega) (by decide), fun z => ?_, fun z => ?_⟩
  · rcases hS with ⟨h0, h1, h2, h3, h4, h5, h6⟩ | ⟨h0, h1, h2, h3, h4⟩ | ⟨h0, h1, h2, h3, h4⟩ | ⟨h0, h1, h2, h3, q, hq1, hq2, hq3, h4⟩
    · exact absurd (show nI s = 0 by rw [show s = 0 from h0]; rfl) z
    · dsimp only at h0 h1 h2 h3 h4
      subst h0
      have hν := wE_eq h4
      rw [hl] at hν
      subst hν
      have hmm := List.mem_of_getElem? h1
      have hpP : p < tP τ := w4 p (List.ne_nil_of_mem hmm)
      have haA := (w5 p).2.2 a hmm
      have hjl : j < (nS ν' p).length := (List.getElem?_eq_some_iff.mp h1).1
      have hl5p := xl5 hT hW' p
      have hSp : nS (wE (wE (nUnpin ν' p j a 3) (l ++ [(1, a, p, j, u, lo)])) l) p = (nS ν' p).eraseIdx j := if_pos rfl
      rw [g116_97]
      simp only [g116_98, g116_99, g116_102, g116_103, g116_104, g116_105, zldI, zldJ, zldR, zlk, zs1, zc1, zs2, zc2, Value.category, zdup_i, zdup_r, zdup2_i, zdup2_l, zrcv, zrm, ↓reduceIte, Nat.reduceAdd, Nat.reduceEqDiff, Nat.reduceLeDiff, Nat.reduceMul, and_false, false_and, and_true, true_and, List.map_cons, List.map_nil, List.sum_cons, List.sum_nil, Option.toList_some, Option.toList_none, List.cons_append, List.nil_append, or_true, true_or, or_false, false_or, Nat.add_zero, Nat.zero_add, Nat.one_ne_zero, Nat.zero_ne_one, not_false_eq_true, not_true_eq_false, implies_true, forall_const, exists_eq_left, reduceCtorEq, false_implies, true_implies, wA1, wA2, wI1, wI2, wJ1, wJ2, wJ3, wR1, wR2, wR31, wR32, zK_0, zfv_0_0, zfv_0_1, zfv_0_2, zfv_0_3, zfv_0_4, zfv_0_5, zfv_0_6, zfv_0_7, zfv_0_8, zfv_0_9, zK_1, zfv_1_0, zfv_1_1, zfv_1_2, zfv_1_3, zfv_1_4, zfv_1_5, zfv_1_6, zK_2, zLn_2, zK_3, zLn_3, zK_4, zfv_4_0, zfv_4_1, zfv_4_2, zfv_4_3, zfv_4_4, zfv_4_5, zfv_4_6, zfv_4_7, zfv_4_8, zfv_4_9, zfv_4_10, zfv_4_11, zK_5, zLn_5, zK_6, zLn_6, zK_7, zLn_7, zK_8, zLn_8, zK_9, zLn_9, zK_10, zLn_10, zK_11, zLn_11, zK_12, zLn_12, zK_13, zLn_13, zK_14, zfv_14_0, zfv_14_1, zfv_14_2, zfv_14_3, zfv_14_4, zfv_14_5, zfv_14_6, zfv_14_7, zfv_14_8, zfv_14_9, zfv_14_10, zfv_14_11, zK_15, zLn_15, zK_16, zLn_16, zK_17, zLn_17, zK_18, zLn_18, zK_19, zLn_19, zK_20, zLn_20, zK_21, zLn_21, zK_22, zLn_22, zK_23, zLn_23, zK_24, zfv_24_0, zfv_24_1, zfv_24_2, zfv_24_3, zfv_24_4, zfv_24_5, zfv_24_6, zfv_24_7, zfv_24_8, zfv_24_9, zK_25, zLn_25, zK_26, zLn_26, zK_27, zLn_27, zK_28, zLn_28, zK_29, zLn_29, zK_30, zLn_30, zK_31, zfv_31_0, zfv_31_1, zfv_31_2, zfv_31_3, zfv_31_4, zfv_31_5, zfv_31_6, zfv_31_7, zfv_31_8, zfv_31_9, zK_32, zLn_32, zK_33, zLn_33, zK_34, zLn_34, zK_35, zLn_35, zK_36, zLn_36, zK_37, zLn_37, zK_38, zfv_38_0, zfv_38_1, zfv_38_2, zfv_38_3, zfv_38_4, zfv_38_5, zfv_38_6, zfv_38_7, zfv_38_8, zfv_38_9, zK_39, zLn_39, zK_40, zLn_40, zK_41, zLn_41, zK_42, zLn_42, zK_43, zLn_43, zK_44, zLn_44, zK_45, zLn_45, zK_46, zLn_46, zK_47, zfv_47_0, zfv_47_1, zfv_47_2, zfv_47_3, zfv_47_4, zfv_47_5, zfv_47_6, zK_48, zLn_48, zK_49, zLn_49, zK_50, zLn_50, zK_51, zLn_51, zK_52, zLn_52, zK_53, zLn_53, zK_54, zLn_54, zK_55, zLn_55, zK_56, zLn_56, zK_57, zLn_57, zK_58, zLn_58, zK_59, zLn_59, zK_60, zfv_60_0, zfv_60_1, zfv_60_2, zK_61, zLn_61, zK_62, zfv_62_0, zK_63, zLn_63, zK_64, zfv_64_0, zfv_64_1, zfv_64_2, zfv_64_3, zfv_64_4, zfv_64_5, zfv_64_6, zfv_64_7, zfv_64_8, zfv_64_9, zfv_64_10, zfv_64_11, zfv_64_12, zfv_64_13, zfv_64_14, zfv_64_15, zfv_64_16, zfv_64_17, zfv_64_18, zfv_64_19, zfv_64_20, zfv_64_21, zfv_64_22, zfv_64_23, zfv_64_24, zfv_64_25, zfv_64_26, zfv_64_27, zK_65, zLn_65, zK_66, zLn_66, zK_67, zLn_67, zK_68, zLn_68, zK_69, zLn_69, zK_70, zLn_70, zK_71, zLn_71, zK_72, zLn_72, zK_73, zLn_73, zK_74, zLn_74, zK_75, zLn_75, zK_76, zLn_76, zK_77, zLn_77, zK_78, zLn_78, zK_79, zLn_79, zK_80, zLn_80, zK_81, zLn_81]
      refine ⟨fun _ => ?_, fun z => absurd z (by decide)⟩
      refine E _ _ hP1 hl5 (by rw [hzw]; exact a2) (by rw [hzw]; exact a3) rfl (by omega) haA (by rw [hSp, List.length_eraseIdx, if_pos hjl]; omega) (by rw [hSp, List.length_eraseIdx, if_pos hjl]; omega) (by decide) ?_
      refine Prod.ext (Prod.ext rfl (Prod.ext rfl ?_)) (Prod.ext (funext fun x => ?_) (Prod.ext rfl (Prod.ext (funext fun x => ?_) rfl)))
      · show nL ν' - 0 = nL ν'
        exact Int32.sub_zero _
      · show (if x = a then 1 else if x = a then 3 else nF ν' x) = nF ν' x
        by_cases e : x = a
        · rw [if_pos e, e]
          exact ((w3 a).mpr ⟨p, hmm⟩).symm
        · rw [if_neg e, if_neg e]
      · show (if x = p then (if p = p then (nS ν' p).eraseIdx j else nS ν' p).insertIdx j a else (if x = p then (nS ν' p).eraseIdx j else nS ν' x)) = nS ν' x
        by_cases e : x = p
        · rw [if_pos e, if_pos rfl, in_er h1, e]
        · rw [if_neg e, if_neg e]
    · dsimp only at h0 h1 h2 h3 h4
      subst h0
      have hν := wE_eq h4
      rw [hl] at hν
      subst hν
      have hmm := List.mem_of_getElem? h1
      have hpP : p < tP τ := w4 p (List.ne_nil_of_mem hmm)
      have haA := (w5 p).2.2 a hmm
      have hjl : j < (nS ν' p).length := (List.getElem?_eq_some_iff.mp h1).1
      have hl5p := xl5 hT hW' p
      have hSp : nS (wE (wE (nAdd (nUnpin ν' p j a 3) (nI (τ.2 6 a))) (l ++ [(2, a, p, j, u, lo)])) l) p = (nS ν' p).eraseIdx j := if_pos rfl
      rw [g116_97]
      simp only [g116_98, g116_99, g116_102, g116_103, g116_104, g116_105, zldI, zldJ, zldR, zlk, zs1, zc1, zs2, zc2, Value.category, zdup_i, zdup_r, zdup2_i, zdup2_l, zrcv, zrm, ↓reduceIte, Nat.reduceAdd, Nat.reduceEqDiff, Nat.reduceLeDiff, Nat.reduceMul, and_false, false_and, and_true, true_and, List.map_cons, List.map_nil, List.sum_cons, List.sum_nil, Option.toList_some, Option.toList_none, List.cons_append, List.nil_append, or_true, true_or, or_false, false_or, Nat.add_zero, Nat.zero_add, Nat.one_ne_zero, Nat.zero_ne_one, not_false_eq_true, not_true_eq_false, implies_true, forall_const, exists_eq_left, reduceCtorEq, false_implies, true_implies, wA1, wA2, wI1, wI2, wJ1, wJ2, wJ3, wR1, wR2, wR31, wR32, zK_0, zfv_0_0, zfv_0_1, zfv_0_2, zfv_0_3, zfv_0_4, zfv_0_5, zfv_0_6, zfv_0_7, zfv_0_8, zfv_0_9, zK_1, zfv_1_0, zfv_1_1, zfv_1_2, zfv_1_3, zfv_1_4, zfv_1_5, zfv_1_6, zK_2, zLn_2, zK_3, zLn_3, zK_4, zfv_4_0, zfv_4_1, zfv_4_2, zfv_4_3, zfv_4_4, zfv_4_5, zfv_4_6, zfv_4_7, zfv_4_8, zfv_4_9, zfv_4_10, zfv_4_11, zK_5, zLn_5, zK_6, zLn_6, zK_7, zLn_7, zK_8, zLn_8, zK_9, zLn_9, zK_10, zLn_10, zK_11, zLn_11, zK_12, zLn_12, zK_13, zLn_13, zK_14, zfv_14_0, zfv_14_1, zfv_14_2, zfv_14_3, zfv_14_4, zfv_14_5, zfv_14_6, zfv_14_7, zfv_14_8, zfv_14_9, zfv_14_10, zfv_14_11, zK_15, zLn_15, zK_16, zLn_16, zK_17, zLn_17, zK_18, zLn_18, zK_19, zLn_19, zK_20, zLn_20, zK_21, zLn_21, zK_22, zLn_22, zK_23, zLn_23, zK_24, zfv_24_0, zfv_24_1, zfv_24_2, zfv_24_3, zfv_24_4, zfv_24_5, zfv_24_6, zfv_24_7, zfv_24_8, zfv_24_9, zK_25, zLn_25, zK_26, zLn_26, zK_27, zLn_27, zK_28, zLn_28, zK_29, zLn_29, zK_30, zLn_30, zK_31, zfv_31_0, zfv_31_1, zfv_31_2, zfv_31_3, zfv_31_4, zfv_31_5, zfv_31_6, zfv_31_7, zfv_31_8, zfv_31_9, zK_32, zLn_32, zK_33, zLn_33, zK_34, zLn_34, zK_35, zLn_35, zK_36, zLn_36, zK_37, zLn_37, zK_38, zfv_38_0, zfv_38_1, zfv_38_2, zfv_38_3, zfv_38_4, zfv_38_5, zfv_38_6, zfv_38_7, zfv_38_8, zfv_38_9, zK_39, zLn_39, zK_40, zLn_40, zK_41, zLn_41, zK_42, zLn_42, zK_43, zLn_43, zK_44, zLn_44, zK_45, zLn_45, zK_46, zLn_46, zK_47, zfv_47_0, zfv_47_1, zfv_47_2, zfv_47_3, zfv_47_4, zfv_47_5, zfv_47_6, zK_48, zLn_48, zK_49, zLn_49, zK_50, zLn_50, zK_51, zLn_51, zK_52, zLn_52, zK_53, zLn_53, zK_54, zLn_54, zK_55, zLn_55, zK_56, zLn_56, zK_57, zLn_57, zK_58, zLn_58, zK_59, zLn_59, zK_60, zfv_60_0, zfv_60_1, zfv_60_2, zK_61, zLn_61, zK_62, zfv_62_0, zK_63, zLn_63, zK_64, zfv_64_0, zfv_64_1, zfv_64_2, zfv_64_3, zfv_64_4, zfv_64_5, zfv_64_6, zfv_64_7, zfv_64_8, zfv_64_9, zfv_64_10, zfv_64_11, zfv_64_12, zfv_64_13, zfv_64_14, zfv_64_15, zfv_64_16, zfv_64_17, zfv_64_18, zfv_64_19, zfv_64_20, zfv_64_21, zfv_64_22, zfv_64_23, zfv_64_24, zfv_64_25, zfv_64_26, zfv_64_27, zK_65, zLn_65, zK_66, zLn_66, zK_67, zLn_67, zK_68, zLn_68, zK_69, zLn_69, zK_70, zLn_70, zK_71, zLn_71, zK_72, zLn_72, zK_73, zLn_73, zK_74, zLn_74, zK_75, zLn_75, zK_76, zLn_76, zK_77, zLn_77, zK_78, zLn_78, zK_79, zLn_79, zK_80, zLn_80, zK_81, zLn_81]
      refine ⟨fun _ => ?_, fun z => absurd z (by decide)⟩
      refine E _ _ hP1 hl5 (by rw [hzw]; exact a2) (by rw [hzw]; exact a3) rfl (by omega) haA (by rw [hSp, List.length_eraseIdx, if_pos hjl]; omega) (by rw [hSp, List.length_eraseIdx, if_pos hjl]; omega) (by decide) ?_
      refine Prod.ext (Prod.ext rfl (Prod.ext rfl ?_)) (Prod.ext (funext fun x => ?_) (Prod.ext rfl (Prod.ext (funext fun x => ?_) rfl)))
      · show (nL ν' + nI (τ.2 6 a)) - nI (τ.2 6 a) = nL ν'
        exact Int32.add_sub_cancel _ _
      · show (if x = a then 1 else if x = a then 3 else nF ν' x) = nF ν' x
        by_cases e : x = a
        · rw [if_pos e, e]
          exact ((w3 a).mpr ⟨p, hmm⟩).symm
        · rw [if_neg e, if_neg e]
      · show (if x = p then (if p = p then (nS ν' p).eraseIdx j else nS ν' p).insertIdx j a else (if x = p then (nS ν' p).eraseIdx j else nS ν' x)) = nS ν' x
        by_cases e : x = p
        · rw [if_pos e, if_pos rfl, in_er h1, e]
        · rw [if_neg e, if_neg e]
    · dsimp only at h0 h1 h2 h3 h4 hq2
      subst h0
      have hν := wE_eq h4
      rw [hl] at hν
      subst hν
      have hmm := List.mem_of_getElem? h1
      have hpP : p < tP τ := w4 p (List.ne_nil_of_mem hmm)
      have haA := (w5 p).2.2 a hmm
      have hjl : j < (nS ν' p).length := (List.getElem?_eq_some_iff.mp h1).1
      have hl5p := xl5 hT hW' p
      have hSq : nS (nUnpin ν' p j a 3) q = nS ν' q := if_neg (Ne.symm hq2)
      have hmem : (nS (wE (wE (nPin (nUnpin ν' p j a 3) a q (nS ν' q).length (nM ν' a)) (l ++ [(3, a, p, j, u, lo)])) l) q)[(nS ν' q).length]? = some a := by
        show (nS (nPin (nUnpin ν' p j a 3) a q (nS ν' q).length (nM ν' a)) q)[(nS ν' q).length]? = some a
        rw [nS_pi, if_pos rfl, hSq, List.getElem?_insertIdx, if_neg (Nat.lt_irrefl _), if_pos rfl, if_pos (Nat.le_refl _)]
      have hSp : nS (nDel (wE (wE (nPin (nUnpin ν' p j a 3) a q (nS ν' q).length (nM ν' a)) (l ++ [(3, a, p, j, u, lo)])) l) q (nS ν' q).length) p = (nS ν' p).eraseIdx j := by
        show (if p = q then _ else if p = q then _ else if p = p then (nS ν' p).eraseIdx j else nS ν' p) = _
        rw [if_neg hq2, if_neg hq2, if_pos rfl]
      rw [g116_97]
      simp only [g116_98, g116_99, g116_102, g116_103, g116_104, g116_105, zldI, zldJ, zldR, zlk, zs1, zc1, zs2, zc2, Value.category, zdup_i, zdup_r, zdup2_i, zdup2_l, zrcv, zrm, ↓reduceIte, Nat.reduceAdd, Nat.reduceEqDiff, Nat.reduceLeDiff, Nat.reduceMul, and_false, false_and, and_true, true_and, List.map_cons, List.map_nil, List.sum_cons, List.sum_nil, Option.toList_some, Option.toList_none, List.cons_append, List.nil_append, or_true, true_or, or_false, false_or, Nat.add_zero, Nat.zero_add, Nat.one_ne_zero, Nat.zero_ne_one, not_false_eq_true, not_true_eq_false, implies_true, forall_const, exists_eq_left, reduceCtorEq, false_implies, true_implies, wA1, wA2, wI1, wI2, wJ1, wJ2, wJ3, wR1, wR2, wR31, wR32, zK_0, zfv_0_0, zfv_0_1, zfv_0_2, zfv_0_3, zfv_0_4, zfv_0_5, zfv_0_6, zfv_0_7, zfv_0_8, zfv_0_9, zK_1, zfv_1_0, zfv_1_1, zfv_1_2, zfv_1_3, zfv_1_4, zfv_1_5, zfv_1_6, zK_2, zLn_2, zK_3, zLn_3, zK_4, zfv_4_0, zfv_4_1, zfv_4_2, zfv_4_3, zfv_4_4, zfv_4_5, zfv_4_6, zfv_4_7, zfv_4_8, zfv_4_9, zfv_4_10, zfv_4_11, zK_5, zLn_5, zK_6, zLn_6, zK_7, zLn_7, zK_8, zLn_8, zK_9, zLn_9, zK_10, zLn_10, zK_11, zLn_11, zK_12, zLn_12, zK_13, zLn_13, zK_14, zfv_14_0, zfv_14_1, zfv_14_2, zfv_14_3, zfv_14_4, zfv_14_5, zfv_14_6, zfv_14_7, zfv_14_8, zfv_14_9, zfv_14_10, zfv_14_11, zK_15, zLn_15, zK_16, zLn_16, zK_17, zLn_17, zK_18, zLn_18, zK_19, zLn_19, zK_20, zLn_20, zK_21, zLn_21, zK_22, zLn_22, zK_23, zLn_23, zK_24, zfv_24_0, zfv_24_1, zfv_24_2, zfv_24_3, zfv_24_4, zfv_24_5, zfv_24_6, zfv_24_7, zfv_24_8, zfv_24_9, zK_25, zLn_25, zK_26, zLn_26, zK_27, zLn_27, zK_28, zLn_28, zK_29, zLn_29, zK_30, zLn_30, zK_31, zfv_31_0, zfv_31_1, zfv_31_2, zfv_31_3, zfv_31_4, zfv_31_5, zfv_31_6, zfv_31_7, zfv_31_8, zfv_31_9, zK_32, zLn_32, zK_33, zLn_33, zK_34, zLn_34, zK_35, zLn_35, zK_36, zLn_36, zK_37, zLn_37, zK_38, zfv_38_0, zfv_38_1, zfv_38_2, zfv_38_3, zfv_38_4, zfv_38_5, zfv_38_6, zfv_38_7, zfv_38_8, zfv_38_9, zK_39, zLn_39, zK_40, zLn_40, zK_41, zLn_41, zK_42, zLn_42, zK_43, zLn_43, zK_44, zLn_44, zK_45, zLn_45, zK_46, zLn_46, zK_47, zfv_47_0, zfv_47_1, zfv_47_2, zfv_47_3, zfv_47_4, zfv_47_5, zfv_47_6, zK_48, zLn_48, zK_49, zLn_49, zK_50, zLn_50, zK_51, zLn_51, zK_52, zLn_52, zK_53, zLn_53, zK_54, zLn_54, zK_55, zLn_55, zK_56, zLn_56, zK_57, zLn_57, zK_58, zLn_58, zK_59, zLn_59, zK_60, zfv_60_0, zfv_60_1, zfv_60_2, zK_61, zLn_61, zK_62, zfv_62_0, zK_63, zLn_63, zK_64, zfv_64_0, zfv_64_1, zfv_64_2, zfv_64_3, zfv_64_4, zfv_64_5, zfv_64_6, zfv_64_7, zfv_64_8, zfv_64_9, zfv_64_10, zfv_64_11, zfv_64_12, zfv_64_13, zfv_64_14, zfv_64_15, zfv_64_16, zfv_64_17, zfv_64_18, zfv_64_19, zfv_64_20, zfv_64_21, zfv_64_22, zfv_64_23, zfv_64_24, zfv_64_25, zfv_64_26, zfv_64_27, zK_65, zLn_65, zK_66, zLn_66, zK_67, zLn_67, zK_68, zLn_68, zK_69, zLn_69, zK_70, zLn_70, zK_71, zLn_71, zK_72, zLn_72, zK_73, zLn_73, zK_74, zLn_74, zK_75, zLn_75, zK_76, zLn_76, zK_77, zLn_77, zK_78, zLn_78, zK_79, zLn_79, zK_80, zLn_80, zK_81, zLn_81]
      refine ⟨fun z => absurd rfl z, fun _ => ?_⟩
      have hWl : WfN τ (wE (wE (nPin (nUnpin ν' p j a 3) a q (nS ν' q).length (nM ν' a)) (l ++ [(3, a, p, j, u, lo)])) l) := hW
      refine ycallp (c_sleeveOf _ hT hWl (hP1.RT hR) hP1.w (show a < 8 by omega) (nI q) (Or.inl ⟨q, List.mem_of_getElem? hmem, rfl⟩)) ?_
      simp only [Option.toList_some, List.cons_append, List.nil_append]
      rw [g116_108]
      simp only [g116_109, zldI, zldJ, zldR, zlk, zs1, zc1, zs2, zc2, Value.category, zdup_i, zdup_r, zdup2_i, zdup2_l, zrcv, zrm, ↓reduceIte, Nat.reduceAdd, Nat.reduceEqDiff, Nat.reduceLeDiff, Nat.reduceMul, and_false, false_and, and_true, true_and, List.map_cons, List.map_nil, List.sum_cons, List.sum_nil, Option.toList_some, Option.toList_none, List.cons_append, List.nil_append, or_true, true_or, or_false, false_or, Nat.add_zero, Nat.zero_add, Nat.one_ne_zero, Nat.zero_ne_one, not_false_eq_true, not_true_eq_false, implies_true, forall_const, exists_eq_left, reduceCtorEq, false_implies, true_implies, wA1, wA2, wI1, wI2, wJ1, wJ2, wJ3, wR1, wR2, wR31, wR32, zK_0, zfv_0_0, zfv_0_1, zfv_0_2, zfv_0_3, zfv_0_4, zfv_0_5, zfv_0_6, zfv_0_7, zfv_0_8, zfv_0_9, zK_1, zfv_1_0, zfv_1_1, zfv_1_2, zfv_1_3, zfv_1_4, zfv_1_5, zfv_1_6, zK_2, zLn_2, zK_3, zLn_3, zK_4, zfv_4_0, zfv_4_1, zfv_4_2, zfv_4_3, zfv_4_4, zfv_4_5, zfv_4_6, zfv_4_7, zfv_4_8, zfv_4_9, zfv_4_10, zfv_4_11, zK_5, zLn_5, zK_6, zLn_6, zK_7, zLn_7, zK_8, zLn_8, zK_9, zLn_9, zK_10, zLn_10, zK_11, zLn_11, zK_12, zLn_12, zK_13, zLn_13, zK_14, zfv_14_0, zfv_14_1, zfv_14_2, zfv_14_3, zfv_14_4, zfv_14_5, zfv_14_6, zfv_14_7, zfv_14_8, zfv_14_9, zfv_14_10, zfv_14_11, zK_15, zLn_15, zK_16, zLn_16, zK_17, zLn_17, zK_18, zLn_18, zK_19, zLn_19, zK_20, zLn_20, zK_21, zLn_21, zK_22, zLn_22, zK_23, zLn_23, zK_24, zfv_24_0, zfv_24_1, zfv_24_2, zfv_24_3, zfv_24_4, zfv_24_5, zfv_24_6, zfv_24_7, zfv_24_8, zfv_24_9, zK_25, zLn_25, zK_26, zLn_26, zK_27, zLn_27, zK_28, zLn_28, zK_29, zLn_29, zK_30, zLn_30, zK_31, zfv_31_0, zfv_31_1, zfv_31_2, zfv_31_3, zfv_31_4, zfv_31_5, zfv_31_6, zfv_31_7, zfv_31_8, zfv_31_9, zK_32, zLn_32, zK_33, zLn_33, zK_34, zLn_34, zK_35, zLn_35, zK_36, zLn_36, zK_37, zLn_37, zK_38, zfv_38_0, zfv_38_1, zfv_38_2, zfv_38_3, zfv_38_4, zfv_38_5, zfv_38_6, zfv_38_7, zfv_38_8, zfv_38_9, zK_39, zLn_39, zK_40, zLn_40, zK_41, zLn_41, zK_42, zLn_42, zK_43, zLn_43, zK_44, zLn_44, zK_45, zLn_45, zK_46, zLn_46, zK_47, zfv_47_0, zfv_47_1, zfv_47_2, zfv_47_3, zfv_47_4, zfv_47_5, zfv_47_6, zK_48, zLn_48, zK_49, zLn_49, zK_50, zLn_50, zK_51, zLn_51, zK_52, zLn_52, zK_53, zLn_53, zK_54, zLn_54, zK_55, zLn_55, zK_56, zLn_56, zK_57, zLn_57, zK_58, zLn_58, zK_59, zLn_59, zK_60, zfv_60_0, zfv_60_1, zfv_60_2, zK_61, zLn_61, zK_62, zfv_62_0, zK_63, zLn_63, zK_64, zfv_64_0, zfv_64_1, zfv_64_2, zfv_64_3, zfv_64_4, zfv_64_5, zfv_64_6, zfv_64_7, zfv_64_8, zfv_64_9, zfv_64_10, zfv_64_11, zfv_64_12, zfv_64_13, zfv_64_14, zfv_64_15, zfv_64_16, zfv_64_17, zfv_64_18, zfv_64_19, zfv_64_20, zfv_64_21, zfv_64_22, zfv_64_23, zfv_64_24, zfv_64_25, zfv_64_26, zfv_64_27, zK_65, zLn_65, zK_66, zLn_66, zK_67, zLn_67, zK_68, zLn_68, zK_69, zLn_69, zK_70, zLn_70, zK_71, zLn_71, zK_72, zLn_72, zK_73, zLn_73, zK_74, zLn_74, zK_75, zLn_75, zK_76, zLn_76, zK_77, zLn_77, zK_78, zLn_78, zK_79, zLn_79, zK_80, zLn_80, zK_81, zLn_81]
      refine ycall (c_remove2 _ hT hWl hP1.w hmem) ?_
      rintro _ σ2 ⟨rfl, h7, h43⟩
      simp only [Option.toList_none, List.nil_append]
      refine E _ σ2 (hP1.trans h7) (xl5d hl5) ?_ ?_ rfl (by omega) haA (by rw [hSp, List.length_eraseIdx, if_pos hjl]; omega) (by rw [hSp, List.length_eraseIdx, if_pos hjl]; omega) (by decide) ?_
      · rw [h43 _ (by omega), hzw]; exact a2
      · rw [h43 _ (by omega), hzw]; exact a3
      · refine Prod.ext (Prod.ext rfl (Prod.ext rfl ?_)) (Prod.ext (funext fun x => ?_) (Prod.ext (funext fun x => ?_) (Prod.ext (funext fun x => ?_) rfl)))
        · show nL ν' - 0 = nL ν'
          exact Int32.sub_zero _
        · show (if x = a then 1 else if x = a then 1 else if x = a then 3 else nF ν' x) = nF ν' x
          by_cases e : x = a
          · rw [if_pos e, e]
            exact ((w3 a).mpr ⟨p, hmm⟩).symm
          · rw [if_neg e, if_neg e, if_neg e]
        · show (if x = a then nM ν' a else nM ν' x) = nM ν' x
          by_cases e : x = a
          · rw [if_pos e, e]
          · rw [if_neg e]
        · show (if x = p then (nS (nDel (wE (wE (nPin (nUnpin ν' p j a 3) a q (nS ν' q).length (nM ν' a)) (l ++ [(3, a, p, j, u, lo)])) l) q (nS ν' q).length) p).insertIdx j a else nS (nDel (wE (wE (nPin (nUnpin ν' p j a 3) a q (nS ν' q).length (nM ν' a)) (l ++ [(3, a, p, j, u, lo)])) l) q (nS ν' q).length) x) = nS ν' x
          rw [hSp]
          by_cases e : x = p
          · rw [if_pos e, in_er h1, e]
          · rw [if_neg e]
            show (if x = q then (if q = q then (nS (nUnpin ν' p j a 3) q).insertIdx (nS ν' q).length a else nS (nUnpin ν' p j a 3) q).eraseIdx (nS ν' q).length else if x = q then (nS (nUnpin ν' p j a 3) q).insertIdx (nS ν' q).length a else if x = p then (nS ν' p).eraseIdx j else nS ν' x) = nS ν' x
            by_cases e2 : x = q
            · rw [if_pos e2, if_pos rfl, hSq, er_in (Nat.le_refl _), e2]
            · rw [if_neg e2, if_neg e2, if_neg e]
  · have hs0 : s = 0 := by
      have hs3 : s ≤ 3 := by
        rcases hS with h | h | h | h
        · have q : s = 0 := h.1; omega
        · have q : s = 1 := h.1; omega
        · have q : s = 2 := h.1; omega
        · have q : s = 3 := h.1; omega
      exact (nI_eq (b := 0) (by omega) (by decide)).mp z
    subst hs0
    rcases hS with ⟨h0, h1, h2, h3, h4, h5, h6⟩ | ⟨h0, -⟩ | ⟨h0, -⟩ | ⟨h0, -⟩
    · dsimp only at h0 h1 h2 h3 h4 h5 h6
      have hν := wE_eq h6
      rw [hl] at hν
      subst hν
      have hpP : p < tP τ := by rw [h3]; exact (hT.2.2.2.2.1 a h1).1
      have hl5p := xl5 hT hW' p
      have hr5 := (hT.2.2.2.1 p hpP).1.2
      have hmem : (nS (wE (wE (nPin ν' a p (nS ν' p).length (τ.2 5 a)) (l ++ [(0, a, p, j, u, lo)])) l) p)[(nS ν' p).length]? = some a := by
        show (nS (nPin ν' a p (nS ν' p).length (τ.2 5 a)) p)[(nS ν' p).length]? = some a
        rw [nS_pi, if_pos rfl, List.getElem?_insertIdx, if_neg (Nat.lt_irrefl _), if_pos rfl, if_pos (Nat.le_refl _)]
      have hWl : WfN τ (wE (wE (nPin ν' a p (nS ν' p).length (τ.2 5 a)) (l ++ [(0, a, p, j, u, lo)])) l) := hW
      refine ⟨vp_in_nI (by omega) (by decide), ?_⟩
      refine ycall (c_remove2 _ hT hWl hP1.w hmem) ?_
      rintro _ σ2 ⟨rfl, h7, h43⟩
      simp only [Option.toList_none, List.nil_append]
      have h8 := hP1.trans h7
      have h9 := h8.I (v := nI 0) (show 3 + a < 100 by omega) (fun q => Rw_fat q (xl5d hl5) (show a < 8 by omega))
      have h10 := h9.I (v := nI 0) (show 11 + a < 100 by omega) (fun q => Rw_lef q (show a < 8 by omega))
      have e0 : (0 : Int32) = nI 0 := rfl
      have e43 : upd (upd (σ2.1 65) (3 + a) (nI 0)) (11 + a) (nI 0) 43 = nI l.length := by
        rw [pk_un (by omega), pk_un (by omega), h43 43 (by decide), hzw, pk_us]
      rw [g116_70]
      simp only [g116_71, g116_74, g116_75, g116_76, g116_77, g116_78, g116_79, g116_80, g116_83, g116_85, g116_86, g116_87, g116_88, g116_89, g116_90, g116_93, g116_95, g116_96, zldI, zldJ, zldR, zlk, zs1, zc1, zs2, zc2, Value.category, zdup_i, zdup_r, zdup2_i, zdup2_l, zrcv, zrm, ↓reduceIte, Nat.reduceAdd, Nat.reduceEqDiff, Nat.reduceLeDiff, Nat.reduceMul, and_false, false_and, and_true, true_and, List.map_cons, List.map_nil, List.sum_cons, List.sum_nil, Option.toList_some, Option.toList_none, List.cons_append, List.nil_append, or_true, true_or, or_false, false_or, Nat.add_zero, Nat.zero_add, Nat.one_ne_zero, Nat.zero_ne_one, not_false_eq_true, not_true_eq_false, implies_true, forall_const, exists_eq_left, reduceCtorEq, false_implies, true_implies, wA1, wA2, wI1, wI2, wJ1, wJ2, wJ3, wR1, wR2, wR31, wR32, zK_0, zfv_0_0, zfv_0_1, zfv_0_2, zfv_0_3, zfv_0_4, zfv_0_5, zfv_0_6, zfv_0_7, zfv_0_8, zfv_0_9, zK_1, zfv_1_0, zfv_1_1, zfv_1_2, zfv_1_3, zfv_1_4, zfv_1_5, zfv_1_6, zK_2, zLn_2, zK_3, zLn_3, zK_4, zfv_4_0, zfv_4_1, zfv_4_2, zfv_4_3, zfv_4_4, zfv_4_5, zfv_4_6, zfv_4_7, zfv_4_8, zfv_4_9, zfv_4_10, zfv_4_11, zK_5, zLn_5, zK_6, zLn_6, zK_7, zLn_7, zK_8, zLn_8, zK_9, zLn_9, zK_10, zLn_10, zK_11, zLn_11, zK_12, zLn_12, zK_13, zLn_13, zK_14, zfv_14_0, zfv_14_1, zfv_14_2, zfv_14_3, zfv_14_4, zfv_14_5, zfv_14_6, zfv_14_7, zfv_14_8, zfv_14_9, zfv_14_10, zfv_14_11, zK_15, zLn_15, zK_16, zLn_16, zK_17, zLn_17, zK_18, zLn_18, zK_19, zLn_19, zK_20, zLn_20, zK_21, zLn_21, zK_22, zLn_22, zK_23, zLn_23, zK_24, zfv_24_0, zfv_24_1, zfv_24_2, zfv_24_3, zfv_24_4, zfv_24_5, zfv_24_6, zfv_24_7, zfv_24_8, zfv_24_9, zK_25, zLn_25, zK_26, zLn_26, zK_27, zLn_27, zK_28, zLn_28, zK_29, zLn_29, zK_30, zLn_30, zK_31, zfv_31_0, zfv_31_1, zfv_31_2, zfv_31_3, zfv_31_4, zfv_31_5, zfv_31_6, zfv_31_7, zfv_31_8, zfv_31_9, zK_32, zLn_32, zK_33, zLn_33, zK_34, zLn_34, zK_35, zLn_35, zK_36, zLn_36, zK_37, zLn_37, zK_38, zfv_38_0, zfv_38_1, zfv_38_2, zfv_38_3, zfv_38_4, zfv_38_5, zfv_38_6, zfv_38_7, zfv_38_8, zfv_38_9, zK_39, zLn_39, zK_40, zLn_40, zK_41, zLn_41, zK_42, zLn_42, zK_43, zLn_43, zK_44, zLn_44, zK_45, zLn_45, zK_46, zLn_46, zK_47, zfv_47_0, zfv_47_1, zfv_47_2, zfv_47_3, zfv_47_4, zfv_47_5, zfv_47_6, zK_48, zLn_48, zK_49, zLn_49, zK_50, zLn_50, zK_51, zLn_51, zK_52, zLn_52, zK_53, zLn_53, zK_54, zLn_54, zK_55, zLn_55, zK_56, zLn_56, zK_57, zLn_57, zK_58, zLn_58, zK_59, zLn_59, zK_60, zfv_60_0, zfv_60_1, zfv_60_2, zK_61, zLn_61, zK_62, zfv_62_0, zK_63, zLn_63, zK_64, zfv_64_0, zfv_64_1, zfv_64_2, zfv_64_3, zfv_64_4, zfv_64_5, zfv_64_6, zfv_64_7, zfv_64_8, zfv_64_9, zfv_64_10, zfv_64_11, zfv_64_12, zfv_64_13, zfv_64_14, zfv_64_15, zfv_64_16, zfv_64_17, zfv_64_18, zfv_64_19, zfv_64_20, zfv_64_21, zfv_64_22, zfv_64_23, zfv_64_24, zfv_64_25, zfv_64_26, zfv_64_27, zK_65, zLn_65, zK_66, zLn_66, zK_67, zLn_67, zK_68, zLn_68, zK_69, zLn_69, zK_70, zLn_70, zK_71, zLn_71, zK_72, zLn_72, zK_73, zLn_73, zK_74, zLn_74, zK_75, zLn_75, zK_76, zLn_76, zK_77, zLn_77, zK_78, zLn_78, zK_79, zLn_79, zK_80, zLn_80, zK_81, zLn_81, ya3, ya11, nI_clamp (show 3 + a < 2 ^ 31 by omega), nI_clamp (show 11 + a < 2 ^ 31 by omega), c43, e0, e43]
      refine ⟨vp_in_nI (by omega) (by decide), vp_in_nI (by omega) (by decide), by unfold vp_in; decide, ?_⟩
      have efin : wE ν' l = nLef (nFat (nDel (wE (wE (nPin ν' a p (nS ν' p).length (τ.2 5 a)) (l ++ [(0, a, p, j, u, lo)])) l) p (nS ν' p).length) a 0) a 0 := by
        refine Prod.ext rfl (Prod.ext (funext fun x => ?_) (Prod.ext (funext fun x => ?_) (Prod.ext (funext fun x => ?_) rfl)))
        · show nF ν' x = (if x = a then 0 else if x = a then 1 else nF ν' x)
          by_cases e : x = a
          · rw [if_pos e, e, h2]
          · rw [if_neg e, if_neg e]
        · show nM ν' x = (if x = a then 0 else if x = a then τ.2 5 a else nM ν' x)
          by_cases e : x = a
          · rw [if_pos e, e, w7 a h2]
          · rw [if_neg e, if_neg e]
        · show nS ν' x = (if x = p then (if p = p then (nS ν' p).insertIdx (nS ν' p).length a else nS ν' p).eraseIdx (nS ν' p).length else (if x = p then (nS ν' p).insertIdx (nS ν' p).length a else nS ν' x))
          by_cases e : x = p
          · rw [if_pos e, if_pos rfl, er_in (Nat.le_refl _), e]
          · rw [if_neg e, if_neg e]
      rw [efin]
      exact h10
    · cases h0
    · cases h0
    · cases h0
end UN
