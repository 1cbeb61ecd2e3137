/-! ===== the class's deeds ===== -/
/-- the whole class but for the text, the chances and the images -/
def nAdd (ν : aN) (x : Int32) : aN := ((nD ν, nW ν, nL ν + x), nF ν, nM ν, nS ν, nE ν)
theorem xi1 {x : Int32} {n : Nat} (h : ¬ x < 0) (h2 : x < nI n) (hn : n < 2 ^ 31) : ∃ a, a < n ∧ x = nI a := by
  rcases pk_ix x hn with q | q | q
  · exact absurd q h
  · exact absurd h2 (xle.mpr q)
  · exact q
theorem xB_t {c : Prop} [Decidable c] (h : c) : xB c = 1 := if_pos h
theorem xB_f {c : Prop} [Decidable c] (h : ¬ c) : xB c = 0 := if_neg h
/-- an argument is one of n, or not -/
theorem xarg (x : Int32) {n : Nat} (hn : n < 2 ^ 31) : (¬ (0 ≤ x ∧ x < nI n)) ∨ ∃ a, a < n ∧ x = nI a ∧ 0 ≤ x ∧ x < nI n := by
  rcases pk_ix x hn with q | q | ⟨a, h1, rfl⟩
  · exact Or.inl fun z => absurd q (xle.mpr z.1)
  · exact Or.inl fun z => absurd z.2 (xle.mpr q)
  · exact Or.inr ⟨a, h1, rfl, nI_pos' (by omega), nI_lt h1 hn⟩
set_option maxHeartbeats 2000000 in
theorem c_hasRoom (d : Nat) {τ : aT} {ν : aN} {σ : zSt} {p : Nat} (hs : σ.2.2 = (4, 14)) (hT : WfT τ) (hR : RTc 4 τ σ) (hN : RNc 24 ν σ) (hp : p < tP τ) (hl : (nS ν p).length ≤ 5) : yC (d + 1) 82 [.ref 0, .int (nI p)] σ (fun r σ' => r = some (.int (xB ((nS ν p).length < τ.2 0 p))) ∧ σ' = σ) := by
  have hp4 : p < 4 := Nat.lt_of_lt_of_le hp hT.1
  have e1 : σ.1 28 p = nI (nS ν p).length := (hN.2.2.1 p hp4).1
  have e2 : σ.1 5 p = nI (τ.2 0 p) := (hR.2.1 p hp).1
  have h5 := (hT.2.2.2.1 p hp).1.2
  refine C82 (Nat.le_of_ble_eq_true rfl) ?_
  simp only [lv_args, Value.category]
  rw [g82_0]
  simp only [g82_1, g82_4, g82_7, g82_8, g82_9, g82_10, g82_13, g82_16, g82_17, g82_18, g82_21, g82_22, g82_25, g82_26, zldI, zldJ, zldR, zlk, zs1, zc1, zs2, zc2, Value.category, zdup_i, zdup_r, zdup2_i, zdup2_l, zrcv, zrm, ↓reduceIte, Nat.reduceAdd, Nat.reduceEqDiff, Nat.reduceLeDiff, Nat.reduceMul, and_false, false_and, and_true, true_and, List.map_cons, List.map_nil, List.sum_cons, List.sum_nil, Option.toList_some, Option.toList_none, List.cons_append, List.nil_append, or_true, true_or, or_false, false_or, Nat.add_zero, Nat.zero_add, Nat.one_ne_zero, Nat.zero_ne_one, not_false_eq_true, not_true_eq_false, implies_true, forall_const, exists_eq_left, reduceCtorEq, false_implies, true_implies, wA1, wA2, wI1, wI2, wJ1, wJ2, wJ3, wR1, wR2, wR31, wR32, zK_0, zfv_0_0, zfv_0_1, zfv_0_2, zfv_0_3, zfv_0_4, zfv_0_5, zfv_0_6, zfv_0_7, zfv_0_8, zfv_0_9, zK_1, zfv_1_0, zfv_1_1, zfv_1_2, zfv_1_3, zfv_1_4, zfv_1_5, zfv_1_6, zK_2, zLn_2, zK_3, zLn_3, zK_4, zfv_4_0, zfv_4_1, zfv_4_2, zfv_4_3, zfv_4_4, zfv_4_5, zfv_4_6, zfv_4_7, zfv_4_8, zfv_4_9, zfv_4_10, zfv_4_11, zK_5, zLn_5, zK_6, zLn_6, zK_7, zLn_7, zK_8, zLn_8, zK_9, zLn_9, zK_10, zLn_10, zK_11, zLn_11, zK_12, zLn_12, zK_13, zLn_13, zK_14, zfv_14_0, zfv_14_1, zfv_14_2, zfv_14_3, zfv_14_4, zfv_14_5, zfv_14_6, zfv_14_7, zfv_14_8, zfv_14_9, zfv_14_10, zfv_14_11, zK_15, zLn_15, zK_16, zLn_16, zK_17, zLn_17, zK_18, zLn_18, zK_19, zLn_19, zK_20, zLn_20, zK_21, zLn_21, zK_22, zLn_22, zK_23, zLn_23, zK_24, zfv_24_0, zfv_24_1, zfv_24_2, zfv_24_3, zfv_24_4, zfv_24_5, zfv_24_6, zfv_24_7, zfv_24_8, zfv_24_9, zK_25, zLn_25, zK_26, zLn_26, zK_27, zLn_27, zK_28, zLn_28, zK_29, zLn_29, zK_30, zLn_30, zK_31, zfv_31_0, zfv_31_1, zfv_31_2, zfv_31_3, zfv_31_4, zfv_31_5, zfv_31_6, zfv_31_7, zfv_31_8, zfv_31_9, zK_32, zLn_32, zK_33, zLn_33, zK_34, zLn_34, zK_35, zLn_35, zK_36, zLn_36, zK_37, zLn_37, zK_38, zfv_38_0, zfv_38_1, zfv_38_2, zfv_38_3, zfv_38_4, zfv_38_5, zfv_38_6, zfv_38_7, zfv_38_8, zfv_38_9, zK_39, zLn_39, zK_40, zLn_40, zK_41, zLn_41, zK_42, zLn_42, zK_43, zLn_43, zK_44, zLn_44, zK_45, zLn_45, zK_46, zLn_46, zK_47, zfv_47_0, zfv_47_1, zfv_47_2, zfv_47_3, zfv_47_4, zfv_47_5, zfv_47_6, zK_48, zLn_48, zK_49, zLn_49, zK_50, zLn_50, zK_51, zLn_51, zK_52, zLn_52, zK_53, zLn_53, zK_54, zLn_54, zK_55, zLn_55, zK_56, zLn_56, zK_57, zLn_57, zK_58, zLn_58, zK_59, zLn_59, zK_60, zfv_60_0, zfv_60_1, zfv_60_2, zK_61, zLn_61, zK_62, zfv_62_0, zK_63, zLn_63, zK_64, zfv_64_0, zfv_64_1, zfv_64_2, zfv_64_3, zfv_64_4, zfv_64_5, zfv_64_6, zfv_64_7, zfv_64_8, zfv_64_9, zfv_64_10, zfv_64_11, zfv_64_12, zfv_64_13, zfv_64_14, zfv_64_15, zfv_64_16, zfv_64_17, zfv_64_18, zfv_64_19, zfv_64_20, zfv_64_21, zfv_64_22, zfv_64_23, zfv_64_24, zfv_64_25, zfv_64_26, zfv_64_27, zK_65, zLn_65, zK_66, zLn_66, zK_67, zLn_67, zK_68, zLn_68, zK_69, zLn_69, zK_70, zLn_70, zK_71, zLn_71, zK_72, zLn_72, zK_73, zLn_73, zK_74, zLn_74, zK_75, zLn_75, zK_76, zLn_76, zK_77, zLn_77, zK_78, zLn_78, zK_79, zLn_79, zK_80, zLn_80, zK_81, zLn_81, hs, nI_clamp (show p < 2 ^ 31 by omega), e1, e2]
  refine ⟨vp_in_nI hp4 (by decide), vp_in_nI hp4 (by decide), fun h => ?_, fun h => ?_⟩
  · rw [xB_f]
    have := (nI_leI (by omega) (by omega)).mp h
    omega
  · rw [xB_t]
    rcases Nat.lt_or_ge (nS ν p).length (τ.2 0 p) with q | q
    · exact q
    · exact absurd (nI_le q (by omega)) h
