/-! ===== a day goes by: the model ===== -/
def frk (τ : aT) (ν : aN) (a i : Nat) : Bool := decide (∀ k, k < i → (τ.2 8 k = a → nF ν (τ.2 9 k) = 2))
theorem frk_0 (τ : aT) (ν : aN) (a : Nat) : frk τ ν a 0 = true := decide_eq_true (fun k hk => absurd hk (Nat.not_lt_zero k))
theorem frk_s (τ : aT) (ν : aN) (a i : Nat) : frk τ ν a (i + 1) = (frk τ ν a i && decide (τ.2 8 i = a → nF ν (τ.2 9 i) = 2)) := by
  unfold frk
  rw [Bool.eq_iff_iff, Bool.and_eq_true, decide_eq_true_iff, decide_eq_true_iff, decide_eq_true_iff]
  constructor
  · intro h
    exact ⟨fun k hk => h k (by omega), h i (by omega)⟩
  · rintro ⟨h1, h2⟩ k hk
    by_cases e : k = i
    · rw [e]; exact h2
    · exact h1 k (by omega)
section
variable {τ : aT} {ν : aN} {σ : zSt}
theorem Rw.f {f : Nat → Int32} {a : Nat} (h : Rw 0 ν f) (ha : a < 8) : f (3 + a) = nI (nF ν a) := by
  have := (h.2.1 a ha).1
  simp only [Nat.zero_add] at this
  exact this
theorem Rw.m {f : Nat → Int32} {a : Nat} (h : Rw 0 ν f) (ha : a < 8) : f (11 + a) = nI (nM ν a) := by
  have := (h.2.1 a ha).2
  simp only [Nat.zero_add] at this
  exact this
theorem Rw.l {f : Nat → Int32} {p : Nat} (h : Rw 0 ν f) (hp : p < 4) : f (19 + p) = nI (nS ν p).length := by
  have := (h.2.2.1 p hp).1
  simp only [Nat.zero_add] at this
  exact this
theorem Rw.s {f : Nat → Int32} {p i a : Nat} (h : Rw 0 ν f) (hp : p < 4) (k : (nS ν p)[i]? = some a) : f (23 + 5 * p + i) = nI a := by
  have := (h.2.2.1 p hp).2 i a k
  simp only [Nat.zero_add] at this
  exact this
set_option maxHeartbeats 2000000 in
theorem m_isFree (d : Nat) {a : Nat} (hT : WfT τ) (hR : RTm τ σ) (hF : ∀ a, nF ν a ≤ 3) (hw : Rw 0 ν (σ.1 65)) (ha : a < tA τ) :
    yC (d + 1) 117 [.ref 64, .int (nI a)] σ (fun r σ' => r = some (.int (if fr τ ν a then 1 else 0)) ∧ σ' = σ) := by
  have hA := hT.2.1
  have hH := hT.2.2.1
  have e8 : σ.1 64 8 = nI (tH τ) := hR.1.2.2
  refine C117 (Nat.le_of_ble_eq_true rfl) ?_
  simp only [lv_args, Value.category]
  rw [g117_0]
  simp only [g117_1, g117_2, g117_3, zldI, zldJ, zldR, zlk, zs1, zc1, zs2, zc2, Value.category, zdup_i, zdup_r, zdup2_i, zdup2_l, zrcv, zrm, ↓reduceIte, Nat.reduceAdd, Nat.reduceEqDiff, Nat.reduceLeDiff, Nat.reduceMul, and_false, false_and, and_true, true_and, List.map_cons, List.map_nil, List.sum_cons, List.sum_nil, Option.toList_some, Option.toList_none, List.cons_append, List.nil_append, or_true, true_or, or_false, false_or, Nat.add_zero, Nat.zero_add, Nat.one_ne_zero, Nat.zero_ne_one, not_false_eq_true, not_true_eq_false, implies_true, forall_const, exists_eq_left, reduceCtorEq, false_implies, true_implies, wA1, wA2, wI1, wI2, wJ1, wJ2, wJ3, wR1, wR2, wR31, wR32, zK_0, zfv_0_0, zfv_0_1, zfv_0_2, zfv_0_3, zfv_0_4, zfv_0_5, zfv_0_6, zfv_0_7, zfv_0_8, zfv_0_9, zK_1, zfv_1_0, zfv_1_1, zfv_1_2, zfv_1_3, zfv_1_4, zfv_1_5, zfv_1_6, zK_2, zLn_2, zK_3, zLn_3, zK_4, zfv_4_0, zfv_4_1, zfv_4_2, zfv_4_3, zfv_4_4, zfv_4_5, zfv_4_6, zfv_4_7, zfv_4_8, zfv_4_9, zfv_4_10, zfv_4_11, zK_5, zLn_5, zK_6, zLn_6, zK_7, zLn_7, zK_8, zLn_8, zK_9, zLn_9, zK_10, zLn_10, zK_11, zLn_11, zK_12, zLn_12, zK_13, zLn_13, zK_14, zfv_14_0, zfv_14_1, zfv_14_2, zfv_14_3, zfv_14_4, zfv_14_5, zfv_14_6, zfv_14_7, zfv_14_8, zfv_14_9, zfv_14_10, zfv_14_11, zK_15, zLn_15, zK_16, zLn_16, zK_17, zLn_17, zK_18, zLn_18, zK_19, zLn_19, zK_20, zLn_20, zK_21, zLn_21, zK_22, zLn_22, zK_23, zLn_23, zK_24, zfv_24_0, zfv_24_1, zfv_24_2, zfv_24_3, zfv_24_4, zfv_24_5, zfv_24_6, zfv_24_7, zfv_24_8, zfv_24_9, zK_25, zLn_25, zK_26, zLn_26, zK_27, zLn_27, zK_28, zLn_28, zK_29, zLn_29, zK_30, zLn_30, zK_31, zfv_31_0, zfv_31_1, zfv_31_2, zfv_31_3, zfv_31_4, zfv_31_5, zfv_31_6, zfv_31_7, zfv_31_8, zfv_31_9, zK_32, zLn_32, zK_33, zLn_33, zK_34, zLn_34, zK_35, zLn_35, zK_36, zLn_36, zK_37, zLn_37, zK_38, zfv_38_0, zfv_38_1, zfv_38_2, zfv_38_3, zfv_38_4, zfv_38_5, zfv_38_6, zfv_38_7, zfv_38_8, zfv_38_9, zK_39, zLn_39, zK_40, zLn_40, zK_41, zLn_41, zK_42, zLn_42, zK_43, zLn_43, zK_44, zLn_44, zK_45, zLn_45, zK_46, zLn_46, zK_47, zfv_47_0, zfv_47_1, zfv_47_2, zfv_47_3, zfv_47_4, zfv_47_5, zfv_47_6, zK_48, zLn_48, zK_49, zLn_49, zK_50, zLn_50, zK_51, zLn_51, zK_52, zLn_52, zK_53, zLn_53, zK_54, zLn_54, zK_55, zLn_55, zK_56, zLn_56, zK_57, zLn_57, zK_58, zLn_58, zK_59, zLn_59, zK_60, zfv_60_0, zfv_60_1, zfv_60_2, zK_61, zLn_61, zK_62, zfv_62_0, zK_63, zLn_63, zK_64, zfv_64_0, zfv_64_1, zfv_64_2, zfv_64_3, zfv_64_4, zfv_64_5, zfv_64_6, zfv_64_7, zfv_64_8, zfv_64_9, zfv_64_10, zfv_64_11, zfv_64_12, zfv_64_13, zfv_64_14, zfv_64_15, zfv_64_16, zfv_64_17, zfv_64_18, zfv_64_19, zfv_64_20, zfv_64_21, zfv_64_22, zfv_64_23, zfv_64_24, zfv_64_25, zfv_64_26, zfv_64_27, zK_65, zLn_65, zK_66, zLn_66, zK_67, zLn_67, zK_68, zLn_68, zK_69, zLn_69, zK_70, zLn_70, zK_71, zLn_71, zK_72, zLn_72, zK_73, zLn_73, zK_74, zLn_74, zK_75, zLn_75, zK_76, zLn_76, zK_77, zLn_77, zK_78, zLn_78, zK_79, zLn_79, zK_80, zLn_80, zK_81, zLn_81]
  refine yup (P := fun i => Y117 d (fun r σ' => r = some (.int (if fr τ ν a then 1 else 0)) ∧ σ' = σ) 4 [(0, .ref 64), (1, .int (nI a)), (2, .int (if frk τ ν a i then 1 else 0)), (3, .int (nI i))] [] σ) 0 (tH τ) (Nat.zero_le _) ?_ ?_
  · rw [g117_4]
    simp only [g117_5, g117_6, g117_9, g117_12, g117_13, g117_16, g117_17, g117_20, g117_21, g117_22, g117_23, g117_24, g117_25, g117_28, g117_29, g117_32, g117_33, g117_34, g117_37, g117_38, g117_39, g117_40, g117_41, g117_42, g117_43, g117_44, g117_45, g117_46, g117_49, g117_50, g117_53, g117_54, g117_55, g117_58, g117_61, g117_62, zldI, zldJ, zldR, zlk, zs1, zc1, zs2, zc2, Value.category, zdup_i, zdup_r, zdup2_i, zdup2_l, zrcv, zrm, ↓reduceIte, Nat.reduceAdd, Nat.reduceEqDiff, Nat.reduceLeDiff, Nat.reduceMul, and_false, false_and, and_true, true_and, List.map_cons, List.map_nil, List.sum_cons, List.sum_nil, Option.toList_some, Option.toList_none, List.cons_append, List.nil_append, or_true, true_or, or_false, false_or, Nat.add_zero, Nat.zero_add, Nat.one_ne_zero, Nat.zero_ne_one, not_false_eq_true, not_true_eq_false, implies_true, forall_const, exists_eq_left, reduceCtorEq, false_implies, true_implies, wA1, wA2, wI1, wI2, wJ1, wJ2, wJ3, wR1, wR2, wR31, wR32, zK_0, zfv_0_0, zfv_0_1, zfv_0_2, zfv_0_3, zfv_0_4, zfv_0_5, zfv_0_6, zfv_0_7, zfv_0_8, zfv_0_9, zK_1, zfv_1_0, zfv_1_1, zfv_1_2, zfv_1_3, zfv_1_4, zfv_1_5, zfv_1_6, zK_2, zLn_2, zK_3, zLn_3, zK_4, zfv_4_0, zfv_4_1, zfv_4_2, zfv_4_3, zfv_4_4, zfv_4_5, zfv_4_6, zfv_4_7, zfv_4_8, zfv_4_9, zfv_4_10, zfv_4_11, zK_5, zLn_5, zK_6, zLn_6, zK_7, zLn_7, zK_8, zLn_8, zK_9, zLn_9, zK_10, zLn_10, zK_11, zLn_11, zK_12, zLn_12, zK_13, zLn_13, zK_14, zfv_14_0, zfv_14_1, zfv_14_2, zfv_14_3, zfv_14_4, zfv_14_5, zfv_14_6, zfv_14_7, zfv_14_8, zfv_14_9, zfv_14_10, zfv_14_11, zK_15, zLn_15, zK_16, zLn_16, zK_17, zLn_17, zK_18, zLn_18, zK_19, zLn_19, zK_20, zLn_20, zK_21, zLn_21, zK_22, zLn_22, zK_23, zLn_23, zK_24, zfv_24_0, zfv_24_1, zfv_24_2, zfv_24_3, zfv_24_4, zfv_24_5, zfv_24_6, zfv_24_7, zfv_24_8, zfv_24_9, zK_25, zLn_25, zK_26, zLn_26, zK_27, zLn_27, zK_28, zLn_28, zK_29, zLn_29, zK_30, zLn_30, zK_31, zfv_31_0, zfv_31_1, zfv_31_2, zfv_31_3, zfv_31_4, zfv_31_5, zfv_31_6, zfv_31_7, zfv_31_8, zfv_31_9, zK_32, zLn_32, zK_33, zLn_33, zK_34, zLn_34, zK_35, zLn_35, zK_36, zLn_36, zK_37, zLn_37, zK_38, zfv_38_0, zfv_38_1, zfv_38_2, zfv_38_3, zfv_38_4, zfv_38_5, zfv_38_6, zfv_38_7, zfv_38_8, zfv_38_9, zK_39, zLn_39, zK_40, zLn_40, zK_41, zLn_41, zK_42, zLn_42, zK_43, zLn_43, zK_44, zLn_44, zK_45, zLn_45, zK_46, zLn_46, zK_47, zfv_47_0, zfv_47_1, zfv_47_2, zfv_47_3, zfv_47_4, zfv_47_5, zfv_47_6, zK_48, zLn_48, zK_49, zLn_49, zK_50, zLn_50, zK_51, zLn_51, zK_52, zLn_52, zK_53, zLn_53, zK_54, zLn_54, zK_55, zLn_55, zK_56, zLn_56, zK_57, zLn_57, zK_58, zLn_58, zK_59, zLn_59, zK_60, zfv_60_0, zfv_60_1, zfv_60_2, zK_61, zLn_61, zK_62, zfv_62_0, zK_63, zLn_63, zK_64, zfv_64_0, zfv_64_1, zfv_64_2, zfv_64_3, zfv_64_4, zfv_64_5, zfv_64_6, zfv_64_7, zfv_64_8, zfv_64_9, zfv_64_10, zfv_64_11, zfv_64_12, zfv_64_13, zfv_64_14, zfv_64_15, zfv_64_16, zfv_64_17, zfv_64_18, zfv_64_19, zfv_64_20, zfv_64_21, zfv_64_22, zfv_64_23, zfv_64_24, zfv_64_25, zfv_64_26, zfv_64_27, zK_65, zLn_65, zK_66, zLn_66, zK_67, zLn_67, zK_68, zLn_68, zK_69, zLn_69, zK_70, zLn_70, zK_71, zLn_71, zK_72, zLn_72, zK_73, zLn_73, zK_74, zLn_74, zK_75, zLn_75, zK_76, zLn_76, zK_77, zLn_77, zK_78, zLn_78, zK_79, zLn_79, zK_80, zLn_80, zK_81, zLn_81, e8]
    refine ⟨fun _ => ⟨?_, rfl⟩, fun h => absurd (nI_le (Nat.le_refl _) (by omega)) h⟩
    cases frk τ ν a (tH τ) <;> decide
  · intro i _ hi ih
    obtain ⟨h8, h9, -⟩ := hT.2.2.2.2.2 i hi
    obtain ⟨q1, q2⟩ := hR.2.2.2 i hi
    have ef : σ.1 65 (3 + τ.2 9 i) = nI (nF ν (τ.2 9 i)) := hw.f (by omega)
    have hF3 := hF (τ.2 9 i)
    rw [frk_s] at ih
    rw [g117_4]
    simp only [g117_5, g117_6, g117_9, g117_12, g117_13, g117_16, g117_17, g117_20, g117_21, g117_22, g117_23, g117_24, g117_25, g117_28, g117_29, g117_32, g117_33, g117_34, g117_37, g117_38, g117_39, g117_40, g117_41, g117_42, g117_43, g117_44, g117_45, g117_46, g117_49, g117_50, g117_53, g117_54, g117_55, g117_58, g117_61, g117_62, zldI, zldJ, zldR, zlk, zs1, zc1, zs2, zc2, Value.category, zdup_i, zdup_r, zdup2_i, zdup2_l, zrcv, zrm, ↓reduceIte, Nat.reduceAdd, Nat.reduceEqDiff, Nat.reduceLeDiff, Nat.reduceMul, and_false, false_and, and_true, true_and, List.map_cons, List.map_nil, List.sum_cons, List.sum_nil, Option.toList_some, Option.toList_none, List.cons_append, List.nil_append, or_true, true_or, or_false, false_or, Nat.add_zero, Nat.zero_add, Nat.one_ne_zero, Nat.zero_ne_one, not_false_eq_true, not_true_eq_false, implies_true, forall_const, exists_eq_left, reduceCtorEq, false_implies, true_implies, wA1, wA2, wI1, wI2, wJ1, wJ2, wJ3, wR1, wR2, wR31, wR32, zK_0, zfv_0_0, zfv_0_1, zfv_0_2, zfv_0_3, zfv_0_4, zfv_0_5, zfv_0_6, zfv_0_7, zfv_0_8, zfv_0_9, zK_1, zfv_1_0, zfv_1_1, zfv_1_2, zfv_1_3, zfv_1_4, zfv_1_5, zfv_1_6, zK_2, zLn_2, zK_3, zLn_3, zK_4, zfv_4_0, zfv_4_1, zfv_4_2, zfv_4_3, zfv_4_4, zfv_4_5, zfv_4_6, zfv_4_7, zfv_4_8, zfv_4_9, zfv_4_10, zfv_4_11, zK_5, zLn_5, zK_6, zLn_6, zK_7, zLn_7, zK_8, zLn_8, zK_9, zLn_9, zK_10, zLn_10, zK_11, zLn_11, zK_12, zLn_12, zK_13, zLn_13, zK_14, zfv_14_0, zfv_14_1, zfv_14_2, zfv_14_3, zfv_14_4, zfv_14_5, zfv_14_6, zfv_14_7, zfv_14_8, zfv_14_9, zfv_14_10, zfv_14_11, zK_15, zLn_15, zK_16, zLn_16, zK_17, zLn_17, zK_18, zLn_18, zK_19, zLn_19, zK_20, zLn_20, zK_21, zLn_21, zK_22, zLn_22, zK_23, zLn_23, zK_24, zfv_24_0, zfv_24_1, zfv_24_2, zfv_24_3, zfv_24_4, zfv_24_5, zfv_24_6, zfv_24_7, zfv_24_8, zfv_24_9, zK_25, zLn_25, zK_26, zLn_26, zK_27, zLn_27, zK_28, zLn_28, zK_29, zLn_29, zK_30, zLn_30, zK_31, zfv_31_0, zfv_31_1, zfv_31_2, zfv_31_3, zfv_31_4, zfv_31_5, zfv_31_6, zfv_31_7, zfv_31_8, zfv_31_9, zK_32, zLn_32, zK_33, zLn_33, zK_34, zLn_34, zK_35, zLn_35, zK_36, zLn_36, zK_37, zLn_37, zK_38, zfv_38_0, zfv_38_1, zfv_38_2, zfv_38_3, zfv_38_4, zfv_38_5, zfv_38_6, zfv_38_7, zfv_38_8, zfv_38_9, zK_39, zLn_39, zK_40, zLn_40, zK_41, zLn_41, zK_42, zLn_42, zK_43, zLn_43, zK_44, zLn_44, zK_45, zLn_45, zK_46, zLn_46, zK_47, zfv_47_0, zfv_47_1, zfv_47_2, zfv_47_3, zfv_47_4, zfv_47_5, zfv_47_6, zK_48, zLn_48, zK_49, zLn_49, zK_50, zLn_50, zK_51, zLn_51, zK_52, zLn_52, zK_53, zLn_53, zK_54, zLn_54, zK_55, zLn_55, zK_56, zLn_56, zK_57, zLn_57, zK_58, zLn_58, zK_59, zLn_59, zK_60, zfv_60_0, zfv_60_1, zfv_60_2, zK_61, zLn_61, zK_62, zfv_62_0, zK_63, zLn_63, zK_64, zfv_64_0, zfv_64_1, zfv_64_2, zfv_64_3, zfv_64_4, zfv_64_5, zfv_64_6, zfv_64_7, zfv_64_8, zfv_64_9, zfv_64_10, zfv_64_11, zfv_64_12, zfv_64_13, zfv_64_14, zfv_64_15, zfv_64_16, zfv_64_17, zfv_64_18, zfv_64_19, zfv_64_20, zfv_64_21, zfv_64_22, zfv_64_23, zfv_64_24, zfv_64_25, zfv_64_26, zfv_64_27, zK_65, zLn_65, zK_66, zLn_66, zK_67, zLn_67, zK_68, zLn_68, zK_69, zLn_69, zK_70, zLn_70, zK_71, zLn_71, zK_72, zLn_72, zK_73, zLn_73, zK_74, zLn_74, zK_75, zLn_75, zK_76, zLn_76, zK_77, zLn_77, zK_78, zLn_78, zK_79, zLn_79, zK_80, zLn_80, zK_81, zLn_81, e8, y2, nI_1, nI_clamp (show 2 * i < 2 ^ 31 by omega), nI_clamp (show 2 * i + 1 < 2 ^ 31 by omega), q1, q2, ya3, nI_clamp (show 3 + τ.2 9 i < 2 ^ 31 by omega), ef]
    refine ⟨fun h => absurd h (nI_ge hi (by omega)), fun _ => ?_⟩
    cases hf : frk τ ν a i with
    | false =>
      rw [hf, Bool.false_and] at ih
      exact ⟨fun _ => ih, fun h => absurd rfl h⟩
    | true =>
      rw [hf, Bool.true_and] at ih
      refine ⟨fun h => absurd h (by decide), fun _ => ?_⟩
      repeat (first | refine ⟨vp_in_nI (by omega) (by decide), ?_⟩ | refine ⟨(by unfold vp_in; decide), ?_⟩)
      refine ⟨fun h => ?_, fun h => ?_⟩
      · rw [decide_eq_true (fun z => absurd (by rw [z]) h)] at ih
        exact ih
      · repeat (first | refine ⟨vp_in_nI (by omega) (by decide), ?_⟩ | refine ⟨(by unfold vp_in; decide), ?_⟩)
        have h8a : τ.2 8 i = a := (nI_eq (by omega) (by omega)).mp h
        refine ⟨fun h2 => ?_, fun h2 => ?_⟩
        · rw [decide_eq_false (fun z => h2 (by rw [z h8a]; rfl))] at ih
          exact ih
        · rw [decide_eq_true (fun _ => (nI_eq (b := 2) (by omega) (by decide)).mp h2)] at ih
          exact ih
set_option maxHeartbeats 2000000 in
theorem m_firstFree (d : Nat) {p : Nat} (hT : WfT τ) (hR : RTm τ σ) (hW : WfN τ ν) (hw : Rw 0 ν (σ.1 65)) (hp : p < tP τ) :
    yC (d + 2) 118 [.ref 64, .int (nI p)] σ (fun r σ' => r = some (.int (ffv (fr τ ν) (-9) (nS ν p))) ∧ σ' = σ) := by
  have hp4 : p < 4 := Nat.lt_of_lt_of_le hp hT.1
  have hA := hT.2.1
  have q1 := hw.l hp4
  have hl5 := xl5 hT hW p
  refine C118 (Nat.le_of_ble_eq_true rfl) ?_
  simp only [lv_args, Value.category]
  rw [g118_0]
  simp only [g118_1, zldI, zldJ, zldR, zlk, zs1, zc1, zs2, zc2, Value.category, zdup_i, zdup_r, zdup2_i, zdup2_l, zrcv, zrm, ↓reduceIte, Nat.reduceAdd, Nat.reduceEqDiff, Nat.reduceLeDiff, Nat.reduceMul, and_false, false_and, and_true, true_and, List.map_cons, List.map_nil, List.sum_cons, List.sum_nil, Option.toList_some, Option.toList_none, List.cons_append, List.nil_append, or_true, true_or, or_false, false_or, Nat.add_zero, Nat.zero_add, Nat.one_ne_zero, Nat.zero_ne_one, not_false_eq_true, not_true_eq_false, implies_true, forall_const, exists_eq_left, reduceCtorEq, false_implies, true_implies, wA1, wA2, wI1, wI2, wJ1, wJ2, wJ3, wR1, wR2, wR31, wR32, zK_0, zfv_0_0, zfv_0_1, zfv_0_2, zfv_0_3, zfv_0_4, zfv_0_5, zfv_0_6, zfv_0_7, zfv_0_8, zfv_0_9, zK_1, zfv_1_0, zfv_1_1, zfv_1_2, zfv_1_3, zfv_1_4, zfv_1_5, zfv_1_6, zK_2, zLn_2, zK_3, zLn_3, zK_4, zfv_4_0, zfv_4_1, zfv_4_2, zfv_4_3, zfv_4_4, zfv_4_5, zfv_4_6, zfv_4_7, zfv_4_8, zfv_4_9, zfv_4_10, zfv_4_11, zK_5, zLn_5, zK_6, zLn_6, zK_7, zLn_7, zK_8, zLn_8, zK_9, zLn_9, zK_10, zLn_10, zK_11, zLn_11, zK_12, zLn_12, zK_13, zLn_13, zK_14, zfv_14_0, zfv_14_1, zfv_14_2, zfv_14_3, zfv_14_4, zfv_14_5, zfv_14_6, zfv_14_7, zfv_14_8, zfv_14_9, zfv_14_10, zfv_14_11, zK_15, zLn_15, zK_16, zLn_16, zK_17, zLn_17, zK_18, zLn_18, zK_19, zLn_19, zK_20, zLn_20, zK_21, zLn_21, zK_22, zLn_22, zK_23, zLn_23, zK_24, zfv_24_0, zfv_24_1, zfv_24_2, zfv_24_3, zfv_24_4, zfv_24_5, zfv_24_6, zfv_24_7, zfv_24_8, zfv_24_9, zK_25, zLn_25, zK_26, zLn_26, zK_27, zLn_27, zK_28, zLn_28, zK_29, zLn_29, zK_30, zLn_30, zK_31, zfv_31_0, zfv_31_1, zfv_31_2, zfv_31_3, zfv_31_4, zfv_31_5, zfv_31_6, zfv_31_7, zfv_31_8, zfv_31_9, zK_32, zLn_32, zK_33, zLn_33, zK_34, zLn_34, zK_35, zLn_35, zK_36, zLn_36, zK_37, zLn_37, zK_38, zfv_38_0, zfv_38_1, zfv_38_2, zfv_38_3, zfv_38_4, zfv_38_5, zfv_38_6, zfv_38_7, zfv_38_8, zfv_38_9, zK_39, zLn_39, zK_40, zLn_40, zK_41, zLn_41, zK_42, zLn_42, zK_43, zLn_43, zK_44, zLn_44, zK_45, zLn_45, zK_46, zLn_46, zK_47, zfv_47_0, zfv_47_1, zfv_47_2, zfv_47_3, zfv_47_4, zfv_47_5, zfv_47_6, zK_48, zLn_48, zK_49, zLn_49, zK_50, zLn_50, zK_51, zLn_51, zK_52, zLn_52, zK_53, zLn_53, zK_54, zLn_54, zK_55, zLn_55, zK_56, zLn_56, zK_57, zLn_57, zK_58, zLn_58, zK_59, zLn_59, zK_60, zfv_60_0, zfv_60_1, zfv_60_2, zK_61, zLn_61, zK_62, zfv_62_0, zK_63, zLn_63, zK_64, zfv_64_0, zfv_64_1, zfv_64_2, zfv_64_3, zfv_64_4, zfv_64_5, zfv_64_6, zfv_64_7, zfv_64_8, zfv_64_9, zfv_64_10, zfv_64_11, zfv_64_12, zfv_64_13, zfv_64_14, zfv_64_15, zfv_64_16, zfv_64_17, zfv_64_18, zfv_64_19, zfv_64_20, zfv_64_21, zfv_64_22, zfv_64_23, zfv_64_24, zfv_64_25, zfv_64_26, zfv_64_27, zK_65, zLn_65, zK_66, zLn_66, zK_67, zLn_67, zK_68, zLn_68, zK_69, zLn_69, zK_70, zLn_70, zK_71, zLn_71, zK_72, zLn_72, zK_73, zLn_73, zK_74, zLn_74, zK_75, zLn_75, zK_76, zLn_76, zK_77, zLn_77, zK_78, zLn_78, zK_79, zLn_79, zK_80, zLn_80, zK_81, zLn_81]
  refine yup (P := fun i => Y118 (d + 1) (fun r σ' => r = some (.int (ffv (fr τ ν) (-9) ((nS ν p).drop i))) ∧ σ' = σ) 2 [(0, .ref 64), (1, .int (nI p)), (2, .int (nI i))] [] σ) 0 (nS ν p).length (Nat.zero_le _) ?_ ?_
  · rw [g118_2]
    simp only [g118_3, g118_4, g118_7, g118_9, g118_10, g118_11, g118_12, g118_15, g118_16, g118_17, g118_20, g118_22, g118_23, g118_24, g118_25, g118_26, g118_27, g118_28, g118_29, g118_55, g118_57, zldI, zldJ, zldR, zlk, zs1, zc1, zs2, zc2, Value.category, zdup_i, zdup_r, zdup2_i, zdup2_l, zrcv, zrm, ↓reduceIte, Nat.reduceAdd, Nat.reduceEqDiff, Nat.reduceLeDiff, Nat.reduceMul, and_false, false_and, and_true, true_and, List.map_cons, List.map_nil, List.sum_cons, List.sum_nil, Option.toList_some, Option.toList_none, List.cons_append, List.nil_append, or_true, true_or, or_false, false_or, Nat.add_zero, Nat.zero_add, Nat.one_ne_zero, Nat.zero_ne_one, not_false_eq_true, not_true_eq_false, implies_true, forall_const, exists_eq_left, reduceCtorEq, false_implies, true_implies, wA1, wA2, wI1, wI2, wJ1, wJ2, wJ3, wR1, wR2, wR31, wR32, zK_0, zfv_0_0, zfv_0_1, zfv_0_2, zfv_0_3, zfv_0_4, zfv_0_5, zfv_0_6, zfv_0_7, zfv_0_8, zfv_0_9, zK_1, zfv_1_0, zfv_1_1, zfv_1_2, zfv_1_3, zfv_1_4, zfv_1_5, zfv_1_6, zK_2, zLn_2, zK_3, zLn_3, zK_4, zfv_4_0, zfv_4_1, zfv_4_2, zfv_4_3, zfv_4_4, zfv_4_5, zfv_4_6, zfv_4_7, zfv_4_8, zfv_4_9, zfv_4_10, zfv_4_11, zK_5, zLn_5, zK_6, zLn_6, zK_7, zLn_7, zK_8, zLn_8, zK_9, zLn_9, zK_10, zLn_10, zK_11, zLn_11, zK_12, zLn_12, zK_13, zLn_13, zK_14, zfv_14_0, zfv_14_1, zfv_14_2, zfv_14_3, zfv_14_4, zfv_14_5, zfv_14_6, zfv_14_7, zfv_14_8, zfv_14_9, zfv_14_10, zfv_14_11, zK_15, zLn_15, zK_16, zLn_16, zK_17, zLn_17, zK_18, zLn_18, zK_19, zLn_19, zK_20, zLn_20, zK_21, zLn_21, zK_22, zLn_22, zK_23, zLn_23, zK_24, zfv_24_0, zfv_24_1, zfv_24_2, zfv_24_3, zfv_24_4, zfv_24_5, zfv_24_6, zfv_24_7, zfv_24_8, zfv_24_9, zK_25, zLn_25, zK_26, zLn_26, zK_27, zLn_27, zK_28, zLn_28, zK_29, zLn_29, zK_30, zLn_30, zK_31, zfv_31_0, zfv_31_1, zfv_31_2, zfv_31_3, zfv_31_4, zfv_31_5, zfv_31_6, zfv_31_7, zfv_31_8, zfv_31_9, zK_32, zLn_32, zK_33, zLn_33, zK_34, zLn_34, zK_35, zLn_35, zK_36, zLn_36, zK_37, zLn_37, zK_38, zfv_38_0, zfv_38_1, zfv_38_2, zfv_38_3, zfv_38_4, zfv_38_5, zfv_38_6, zfv_38_7, zfv_38_8, zfv_38_9, zK_39, zLn_39, zK_40, zLn_40, zK_41, zLn_41, zK_42, zLn_42, zK_43, zLn_43, zK_44, zLn_44, zK_45, zLn_45, zK_46, zLn_46, zK_47, zfv_47_0, zfv_47_1, zfv_47_2, zfv_47_3, zfv_47_4, zfv_47_5, zfv_47_6, zK_48, zLn_48, zK_49, zLn_49, zK_50, zLn_50, zK_51, zLn_51, zK_52, zLn_52, zK_53, zLn_53, zK_54, zLn_54, zK_55, zLn_55, zK_56, zLn_56, zK_57, zLn_57, zK_58, zLn_58, zK_59, zLn_59, zK_60, zfv_60_0, zfv_60_1, zfv_60_2, zK_61, zLn_61, zK_62, zfv_62_0, zK_63, zLn_63, zK_64, zfv_64_0, zfv_64_1, zfv_64_2, zfv_64_3, zfv_64_4, zfv_64_5, zfv_64_6, zfv_64_7, zfv_64_8, zfv_64_9, zfv_64_10, zfv_64_11, zfv_64_12, zfv_64_13, zfv_64_14, zfv_64_15, zfv_64_16, zfv_64_17, zfv_64_18, zfv_64_19, zfv_64_20, zfv_64_21, zfv_64_22, zfv_64_23, zfv_64_24, zfv_64_25, zfv_64_26, zfv_64_27, zK_65, zLn_65, zK_66, zLn_66, zK_67, zLn_67, zK_68, zLn_68, zK_69, zLn_69, zK_70, zLn_70, zK_71, zLn_71, zK_72, zLn_72, zK_73, zLn_73, zK_74, zLn_74, zK_75, zLn_75, zK_76, zLn_76, zK_77, zLn_77, zK_78, zLn_78, zK_79, zLn_79, zK_80, zLn_80, zK_81, zLn_81, ya19, nI_clamp (show 19 + p < 2 ^ 31 by omega), q1, List.drop_length, ffv_n]
    repeat (first | refine ⟨vp_in_nI (by omega) (by decide), ?_⟩ | refine ⟨(by unfold vp_in; decide), ?_⟩)
    exact fun h => absurd (nI_le (Nat.le_refl _) (by omega)) h
  · intro i _ hi ih
    obtain ⟨a, ha⟩ : ∃ a, (nS ν p)[i]? = some a := ⟨_, List.getElem?_eq_getElem hi⟩
    have haA : a < tA τ := (hW.2.2.2.2.1 p).2.2 a (List.mem_of_getElem? ha)
    have e29 := hw.s hp4 ha
    have hd : (nS ν p).drop i = a :: (nS ν p).drop (i + 1) := by
      rw [dr_c hi]
      congr 1
      exact (List.getElem?_eq_some_iff.mp ha).2
    rw [g118_2]
    simp only [g118_3, g118_4, g118_7, g118_9, g118_10, g118_11, g118_12, g118_15, g118_16, g118_17, g118_20, g118_22, g118_23, g118_24, g118_25, g118_26, g118_27, g118_28, g118_29, g118_55, g118_57, zldI, zldJ, zldR, zlk, zs1, zc1, zs2, zc2, Value.category, zdup_i, zdup_r, zdup2_i, zdup2_l, zrcv, zrm, ↓reduceIte, Nat.reduceAdd, Nat.reduceEqDiff, Nat.reduceLeDiff, Nat.reduceMul, and_false, false_and, and_true, true_and, List.map_cons, List.map_nil, List.sum_cons, List.sum_nil, Option.toList_some, Option.toList_none, List.cons_append, List.nil_append, or_true, true_or, or_false, false_or, Nat.add_zero, Nat.zero_add, Nat.one_ne_zero, Nat.zero_ne_one, not_false_eq_true, not_true_eq_false, implies_true, forall_const, exists_eq_left, reduceCtorEq, false_implies, true_implies, wA1, wA2, wI1, wI2, wJ1, wJ2, wJ3, wR1, wR2, wR31, wR32, zK_0, zfv_0_0, zfv_0_1, zfv_0_2, zfv_0_3, zfv_0_4, zfv_0_5, zfv_0_6, zfv_0_7, zfv_0_8, zfv_0_9, zK_1, zfv_1_0, zfv_1_1, zfv_1_2, zfv_1_3, zfv_1_4, zfv_1_5, zfv_1_6, zK_2, zLn_2, zK_3, zLn_3, zK_4, zfv_4_0, zfv_4_1, zfv_4_2, zfv_4_3, zfv_4_4, zfv_4_5, zfv_4_6, zfv_4_7, zfv_4_8, zfv_4_9, zfv_4_10, zfv_4_11, zK_5, zLn_5, zK_6, zLn_6, zK_7, zLn_7, zK_8, zLn_8, zK_9, zLn_9, zK_10, zLn_10, zK_11, zLn_11, zK_12, zLn_12, zK_13, zLn_13, zK_14, zfv_14_0, zfv_14_1, zfv_14_2, zfv_14_3, zfv_14_4, zfv_14_5, zfv_14_6, zfv_14_7, zfv_14_8, zfv_14_9, zfv_14_10, zfv_14_11, zK_15, zLn_15, zK_16, zLn_16, zK_17, zLn_17, zK_18, zLn_18, zK_19, zLn_19, zK_20, zLn_20, zK_21, zLn_21, zK_22, zLn_22, zK_23, zLn_23, zK_24, zfv_24_0, zfv_24_1, zfv_24_2, zfv_24_3, zfv_24_4, zfv_24_5, zfv_24_6, zfv_24_7, zfv_24_8, zfv_24_9, zK_25, zLn_25, zK_26, zLn_26, zK_27, zLn_27, zK_28, zLn_28, zK_29, zLn_29, zK_30, zLn_30, zK_31, zfv_31_0, zfv_31_1, zfv_31_2, zfv_31_3, zfv_31_4, zfv_31_5, zfv_31_6, zfv_31_7, zfv_31_8, zfv_31_9, zK_32, zLn_32, zK_33, zLn_33, zK_34, zLn_34, zK_35, zLn_35, zK_36, zLn_36, zK_37, zLn_37, zK_38, zfv_38_0, zfv_38_1, zfv_38_2, zfv_38_3, zfv_38_4, zfv_38_5, zfv_38_6, zfv_38_7, zfv_38_8, zfv_38_9, zK_39, zLn_39, zK_40, zLn_40, zK_41, zLn_41, zK_42, zLn_42, zK_43, zLn_43, zK_44, zLn_44, zK_45, zLn_45, zK_46, zLn_46, zK_47, zfv_47_0, zfv_47_1, zfv_47_2, zfv_47_3, zfv_47_4, zfv_47_5, zfv_47_6, zK_48, zLn_48, zK_49, zLn_49, zK_50, zLn_50, zK_51, zLn_51, zK_52, zLn_52, zK_53, zLn_53, zK_54, zLn_54, zK_55, zLn_55, zK_56, zLn_56, zK_57, zLn_57, zK_58, zLn_58, zK_59, zLn_59, zK_60, zfv_60_0, zfv_60_1, zfv_60_2, zK_61, zLn_61, zK_62, zfv_62_0, zK_63, zLn_63, zK_64, zfv_64_0, zfv_64_1, zfv_64_2, zfv_64_3, zfv_64_4, zfv_64_5, zfv_64_6, zfv_64_7, zfv_64_8, zfv_64_9, zfv_64_10, zfv_64_11, zfv_64_12, zfv_64_13, zfv_64_14, zfv_64_15, zfv_64_16, zfv_64_17, zfv_64_18, zfv_64_19, zfv_64_20, zfv_64_21, zfv_64_22, zfv_64_23, zfv_64_24, zfv_64_25, zfv_64_26, zfv_64_27, zK_65, zLn_65, zK_66, zLn_66, zK_67, zLn_67, zK_68, zLn_68, zK_69, zLn_69, zK_70, zLn_70, zK_71, zLn_71, zK_72, zLn_72, zK_73, zLn_73, zK_74, zLn_74, zK_75, zLn_75, zK_76, zLn_76, zK_77, zLn_77, zK_78, zLn_78, zK_79, zLn_79, zK_80, zLn_80, zK_81, zLn_81, ya19, nI_clamp (show 19 + p < 2 ^ 31 by omega), q1, y5, ya23, nI_add, nI_clamp (show 23 + 5 * p + i < 2 ^ 31 by omega), e29]
    repeat (first | refine ⟨vp_in_nI (by omega) (by decide), ?_⟩ | refine ⟨(by unfold vp_in; decide), ?_⟩)
    refine ⟨fun h => absurd h (nI_ge hi (by omega)), fun _ => ?_⟩
    repeat (first | refine ⟨vp_in_nI (by omega) (by decide), ?_⟩ | refine ⟨(by unfold vp_in; decide), ?_⟩)
    refine ycallp (m_isFree _ hT hR hW.2.1 hw haA) ?_
    simp only [Option.toList_some, List.cons_append, List.nil_append]
    rw [g118_32]
    simp only [g118_35, g118_36, g118_39, g118_41, g118_42, g118_43, g118_44, g118_45, g118_46, g118_47, g118_48, g118_49, g118_52, zldI, zldJ, zldR, zlk, zs1, zc1, zs2, zc2, Value.category, zdup_i, zdup_r, zdup2_i, zdup2_l, zrcv, zrm, ↓reduceIte, Nat.reduceAdd, Nat.reduceEqDiff, Nat.reduceLeDiff, Nat.reduceMul, and_false, false_and, and_true, true_and, List.map_cons, List.map_nil, List.sum_cons, List.sum_nil, Option.toList_some, Option.toList_none, List.cons_append, List.nil_append, or_true, true_or, or_false, false_or, Nat.add_zero, Nat.zero_add, Nat.one_ne_zero, Nat.zero_ne_one, not_false_eq_true, not_true_eq_false, implies_true, forall_const, exists_eq_left, reduceCtorEq, false_implies, true_implies, wA1, wA2, wI1, wI2, wJ1, wJ2, wJ3, wR1, wR2, wR31, wR32, zK_0, zfv_0_0, zfv_0_1, zfv_0_2, zfv_0_3, zfv_0_4, zfv_0_5, zfv_0_6, zfv_0_7, zfv_0_8, zfv_0_9, zK_1, zfv_1_0, zfv_1_1, zfv_1_2, zfv_1_3, zfv_1_4, zfv_1_5, zfv_1_6, zK_2, zLn_2, zK_3, zLn_3, zK_4, zfv_4_0, zfv_4_1, zfv_4_2, zfv_4_3, zfv_4_4, zfv_4_5, zfv_4_6, zfv_4_7, zfv_4_8, zfv_4_9, zfv_4_10, zfv_4_11, zK_5, zLn_5, zK_6, zLn_6, zK_7, zLn_7, zK_8, zLn_8, zK_9, zLn_9, zK_10, zLn_10, zK_11, zLn_11, zK_12, zLn_12, zK_13, zLn_13, zK_14, zfv_14_0, zfv_14_1, zfv_14_2, zfv_14_3, zfv_14_4, zfv_14_5, zfv_14_6, zfv_14_7, zfv_14_8, zfv_14_9, zfv_14_10, zfv_14_11, zK_15, zLn_15, zK_16, zLn_16, zK_17, zLn_17, zK_18, zLn_18, zK_19, zLn_19, zK_20, zLn_20, zK_21, zLn_21, zK_22, zLn_22, zK_23, zLn_23, zK_24, zfv_24_0, zfv_24_1, zfv_24_2, zfv_24_3, zfv_24_4, zfv_24_5, zfv_24_6, zfv_24_7, zfv_24_8, zfv_24_9, zK_25, zLn_25, zK_26, zLn_26, zK_27, zLn_27, zK_28, zLn_28, zK_29, zLn_29, zK_30, zLn_30, zK_31, zfv_31_0, zfv_31_1, zfv_31_2, zfv_31_3, zfv_31_4, zfv_31_5, zfv_31_6, zfv_31_7, zfv_31_8, zfv_31_9, zK_32, zLn_32, zK_33, zLn_33, zK_34, zLn_34, zK_35, zLn_35, zK_36, zLn_36, zK_37, zLn_37, zK_38, zfv_38_0, zfv_38_1, zfv_38_2, zfv_38_3, zfv_38_4, zfv_38_5, zfv_38_6, zfv_38_7, zfv_38_8, zfv_38_9, zK_39, zLn_39, zK_40, zLn_40, zK_41, zLn_41, zK_42, zLn_42, zK_43, zLn_43, zK_44, zLn_44, zK_45, zLn_45, zK_46, zLn_46, zK_47, zfv_47_0, zfv_47_1, zfv_47_2, zfv_47_3, zfv_47_4, zfv_47_5, zfv_47_6, zK_48, zLn_48, zK_49, zLn_49, zK_50, zLn_50, zK_51, zLn_51, zK_52, zLn_52, zK_53, zLn_53, zK_54, zLn_54, zK_55, zLn_55, zK_56, zLn_56, zK_57, zLn_57, zK_58, zLn_58, zK_59, zLn_59, zK_60, zfv_60_0, zfv_60_1, zfv_60_2, zK_61, zLn_61, zK_62, zfv_62_0, zK_63, zLn_63, zK_64, zfv_64_0, zfv_64_1, zfv_64_2, zfv_64_3, zfv_64_4, zfv_64_5, zfv_64_6, zfv_64_7, zfv_64_8, zfv_64_9, zfv_64_10, zfv_64_11, zfv_64_12, zfv_64_13, zfv_64_14, zfv_64_15, zfv_64_16, zfv_64_17, zfv_64_18, zfv_64_19, zfv_64_20, zfv_64_21, zfv_64_22, zfv_64_23, zfv_64_24, zfv_64_25, zfv_64_26, zfv_64_27, zK_65, zLn_65, zK_66, zLn_66, zK_67, zLn_67, zK_68, zLn_68, zK_69, zLn_69, zK_70, zLn_70, zK_71, zLn_71, zK_72, zLn_72, zK_73, zLn_73, zK_74, zLn_74, zK_75, zLn_75, zK_76, zLn_76, zK_77, zLn_77, zK_78, zLn_78, zK_79, zLn_79, zK_80, zLn_80, zK_81, zLn_81, ya19, nI_clamp (show 19 + p < 2 ^ 31 by omega), q1, y5, ya23, nI_add, nI_clamp (show 23 + 5 * p + i < 2 ^ 31 by omega), e29, nI_1]
    rw [hd]
    cases hf : fr τ ν a with
    | false =>
      rw [ffv_f hf]
      exact ⟨fun _ => ih, fun h => absurd rfl h⟩
    | true =>
      rw [ffv_t hf]
      refine ⟨fun h => absurd h (by decide), fun _ => ?_⟩
      exact ⟨vp_in_nI (by omega) (by decide), rfl⟩
theorem nLef_back (a u : Nat) : nLef (nLef ν a u) a (nM ν a) = ν := by
  unfold nLef
  refine Prod.ext rfl (Prod.ext rfl (Prod.ext (funext fun x => ?_) rfl))
  show (if x = a then nM ν a else (if x = a then u else nM ν x)) = nM ν x
  by_cases e : x = a
  · rw [if_pos e, e]
  · rw [if_neg e, if_neg e]
theorem m_remove0 (d : Nat) {p j a u : Nat} (hT : WfT τ) (hW : WfN τ ν) (hw : Rw 0 (nLef ν a u) (σ.1 65)) (h : (nS ν p)[j]? = some a) : yC (d + 2) 110 [.ref 64, .int (nI p), .int (nI a)] σ (fun r σ' => r = none ∧ PW (nDel (nLef ν a u) p j) σ σ') := by
  have hm := List.mem_of_getElem? h
  have haA : a < tA τ := (hW.2.2.2.2.1 p).2.2 a hm
  have hw1 : Rw 0 ν (upd (σ.1 65) (11 + a) (nI (nM ν a))) := by
    have := Rw_lef (v := nM ν a) hw (Nat.lt_of_lt_of_le haA hT.2.1)
    rw [nLef_back] at this
    exact this
  obtain ⟨hp4, ha8, -, hpP, hjl, hl5, hfa, hf1, hc, hit, hno⟩ := ypin hT hW hw1 h
  rw [pk_un (by omega)] at hc hit
  obtain ⟨n, hn⟩ : ∃ n, (nS ν p).length = n + 1 := ⟨(nS ν p).length - 1, by omega⟩
  refine (c_removeM d σ a p j n ha8 hp4 (by omega) (by rw [hc, hn]) (by omega) hit (fun i hi => by have := hno i hi; rw [pk_un (by omega)] at this; exact this)).mono ?_
  rintro r σ' ⟨rfl, rfl⟩
  refine ⟨rfl, _, rfl, Rw_del hw (show ∀ q, (nS ν q).length ≤ 5 from xl5 hT hW) hn (by omega) hp4, fun k hk => ?_⟩
  unfold shl
  rw [if_neg (by omega), pk_un (by omega)]
theorem Rw_win {f : Nat → Int32} {v : Int32} (h : Rw 0 ν f) : Rw 0 (nWin ν v) (upd f 1 (f 1 + v)) := by
  obtain ⟨r1, r2, r3, r4⟩ := h
  simp only [Nat.zero_add] at r1 r2 r3 r4
  refine ⟨?_, fun x hx => ?_, fun q hq => ?_, fun k e hk => ?_⟩ <;> simp only [Nat.zero_add]
  · rw [pk_un (by omega), pk_us, pk_un (by omega), pk_un (by omega), r1.2.1]
    exact ⟨r1.1, rfl, r1.2.2⟩
  · rw [pk_un (by omega), pk_un (by omega)]; exact r2 x hx
  · rw [pk_un (by omega)]
    refine ⟨(r3 q hq).1, fun i a hi => ?_⟩
    rw [pk_un (by omega)]; exact (r3 q hq).2 i a hi
  · rw [pk_un (by omega), pk_un (by omega), pk_un (by omega), pk_un (by omega)]; exact r4 k e hk
end
