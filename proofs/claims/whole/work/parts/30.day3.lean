/-! ===== a day goes by: class ===== -/
def slv (ν : aN) (a : Nat) : Nat := if a ∈ nS ν 0 then 0 else if a ∈ nS ν 1 then 1 else if a ∈ nS ν 2 then 2 else 3
theorem slv_at {τ : aT} {ν : aN} {a : Nat} (hT : WfT τ) (hW : WfN τ ν) (h : nF ν a = 1) : a ∈ nS ν (slv ν a) := by
  obtain ⟨p, hp⟩ := (hW.2.2.1 a).mp h
  have hp4 : p < 4 := Nat.lt_of_lt_of_le (hW.2.2.2.1 p (List.ne_nil_of_mem hp)) hT.1
  unfold slv
  by_cases h0 : a ∈ nS ν 0
  · rw [if_pos h0]; exact h0
  · rw [if_neg h0]
    by_cases h1 : a ∈ nS ν 1
    · rw [if_pos h1]; exact h1
    · rw [if_neg h1]
      by_cases h2 : a ∈ nS ν 2
      · rw [if_pos h2]; exact h2
      · rw [if_neg h2]
        have : p = 0 ∨ p = 1 ∨ p = 2 ∨ p = 3 := by omega
        rcases this with rfl | rfl | rfl | rfl
        · exact absurd hp h0
        · exact absurd hp h1
        · exact absurd hp h2
        · exact hp
def wkP (τ : aT) : Nat → Nat → aN → aN × Nat
  | 0, _, ν => (ν, 0)
  | n + 1, p, ν => ((wkP τ n (p + 1) (wkU τ p (τ.2 1 p) ν).1).1, (wkU τ p (τ.2 1 p) ν).2 + (wkP τ n (p + 1) (wkU τ p (τ.2 1 p) ν).1).2)
def du1 (τ : aT) (a : Nat) (ν : aN) : aN :=
  if nF ν a = 1 ∧ τ.2 7 a = nD ν then nAdd (nUnpin ν (slv ν a) ((nS ν (slv ν a)).idxOf a) a 3) (nI (τ.2 6 a))
  else if nF ν a = 0 ∧ τ.2 4 a = nD ν then nFat ν a 3 else ν
def duA (τ : aT) : Nat → Nat → aN → aN
  | 0, _, ν => ν
  | n + 1, a, ν => duA τ n (a + 1) (du1 τ a ν)
def nNext (ν : aN) : aN := ((nD ν + 1, nW ν, nL ν), nF ν, nM ν, nS ν, [])
def nDay (τ : aT) (ν : aN) : aN := nNext (duA τ (tA τ) 0 (wkP τ (tP τ) 0 ν).1)
section
variable {τ : aT} {ν : aN} {σ : zSt}
theorem Wf_wkP : ∀ (n p : Nat) {ν : aN}, WfN τ ν → WfN τ (wkP τ n p ν).1
  | 0, _, _, h => h
  | n + 1, p, _, h => Wf_wkP n (p + 1) (Wf_wkU _ h)
theorem wkP_le (hT : WfT τ) : ∀ (n p : Nat) {ν : aN}, p + n ≤ tP τ → (wkP τ n p ν).2 ≤ 3 * n
  | 0, _, _, _ => Nat.le_refl 0
  | n + 1, p, ν, h => by
    have h1 := wkP_le hT n (p + 1) (ν := (wkU τ p (τ.2 1 p) ν).1) (by omega)
    have h2 := wkU_le (τ := τ) (p := p) (τ.2 1 p) (ν := ν)
    have h3 := (hT.2.2.2.1 p (by omega)).2.1.2
    show _ + _ ≤ _
    omega
theorem Wf_du1 {a : Nat} (hT : WfT τ) (h : WfN τ ν) : WfN τ (du1 τ a ν) := by
  unfold du1
  by_cases h1 : nF ν a = 1 ∧ τ.2 7 a = nD ν
  · rw [if_pos h1]
    exact Wf_add (Wf_unpin h (idx_at (slv_at hT h h1.1)) (by decide) (by decide) (fun z => absurd z (by decide)))
  · rw [if_neg h1]
    by_cases h2 : nF ν a = 0 ∧ τ.2 4 a = nD ν
    · rw [if_pos h2]
      exact Wf_fat h (by omega) (h.2.2.2.2.2.2.1 a h2.1) (by decide) (by decide)
    · rw [if_neg h2]; exact h
theorem Wf_duA (hT : WfT τ) : ∀ (n a : Nat) {ν : aN}, WfN τ ν → WfN τ (duA τ n a ν)
  | 0, _, _, h => h
  | n + 1, a, _, h => Wf_duA hT n (a + 1) (Wf_du1 hT h)
theorem wk1_D (p a : Nat) (ν : aN) : nD (wk1 τ p a ν) = nD ν := by unfold wk1; split <;> rfl
theorem wkU_D (p : Nat) : ∀ (u : Nat) (ν : aN), nD (wkU τ p u ν).1 = nD ν
  | 0, _ => rfl
  | u + 1, ν => by
    rcases hf : (nS ν p).find? (fr τ ν) with _ | a
    · rw [wkU_n hf]
    · rw [wkU_s hf]
      exact (wkU_D p u _).trans (wk1_D p a ν)
theorem wkP_D : ∀ (n p : Nat) (ν : aN), nD (wkP τ n p ν).1 = nD ν
  | 0, _, _ => rfl
  | n + 1, p, ν => (wkP_D n (p + 1) _).trans (wkU_D p _ ν)
theorem du1_D (a : Nat) (ν : aN) : nD (du1 τ a ν) = nD ν := by
  unfold du1
  split
  · rfl
  · split <;> rfl
theorem duA_D : ∀ (n a : Nat) (ν : aN), nD (duA τ n a ν) = nD ν
  | 0, _, _ => rfl
  | n + 1, a, ν => (duA_D n (a + 1) _).trans (du1_D a ν)
theorem Wf_day (hT : WfT τ) (h : WfN τ ν) (hd : nD ν ≤ 9) : WfN τ (nDay τ ν) := by
  have h1 := Wf_duA hT (tA τ) 0 (Wf_wkP (tP τ) 0 h)
  refine ⟨?_, h1.2⟩
  show nD (duA τ (tA τ) 0 (wkP τ (tP τ) 0 ν).1) + 1 ≤ 10
  rw [duA_D, wkP_D]
  omega
theorem RNc_add {x : Int32} (hN : RNc 24 ν σ) : RNc 24 (nAdd ν x) (zwI σ 24 2 (nL ν + x)) := by
  obtain ⟨r1, r2, r3, r4⟩ := hN
  refine ⟨?_, fun x hx => ?_, fun q hq => ?_, ?_⟩
  · simp only [wI1, wA1, ↓reduceIte, Nat.reduceAdd, Nat.reduceEqDiff, upd]; exact ⟨r1.1, r1.2.1, rfl, r1.2.2.2⟩
  · simp only [wI1, wA1, ↓reduceIte, Nat.reduceAdd, Nat.reduceEqDiff]; exact r2 x hx
  · simp only [wI1, wA1, ↓reduceIte, Nat.reduceAdd, Nat.reduceEqDiff]; exact r3 q hq
  · simp only [wI1, wA1, ↓reduceIte, Nat.reduceAdd, Nat.reduceEqDiff]; exact r4
theorem RNc_fat {a f : Nat} (hN : RNc 24 ν σ) (h1 : nF ν a ≠ 1) (h2 : f ≠ 1) : RNc 24 (nFat ν a f) (zwI σ 25 a (nI f)) := by
  obtain ⟨r1, r2, r3, r4⟩ := hN
  refine ⟨?_, fun x hx => ?_, fun q hq => ?_, ?_⟩
  · simp only [wI1, wA1, ↓reduceIte, Nat.reduceAdd, Nat.reduceEqDiff, upd]; exact r1
  · simp only [wI1, wA1, ↓reduceIte, Nat.reduceAdd, Nat.reduceEqDiff, upd]
    obtain ⟨a1, a2, a3⟩ := r2 x hx
    show _ = nI (if x = a then f else nF ν x) ∧ _ = nI (if (if x = a then f else nF ν x) = 1 then nM ν x else 0) ∧ ((if x = a then f else nF ν x) ≠ 1 → _)
    by_cases e : x = a
    · subst e
      rw [if_neg h1] at a2
      rw [if_pos rfl, if_pos rfl, if_neg h2]
      exact ⟨rfl, a2, fun _ => a3 h1⟩
    · rw [if_neg e, if_neg e]; exact ⟨a1, a2, a3⟩
  · simp only [wI1, wA1, ↓reduceIte, Nat.reduceAdd, Nat.reduceEqDiff]; exact r3 q hq
  · simp only [wI1, wA1, ↓reduceIte, Nat.reduceAdd, Nat.reduceEqDiff]; exact r4
set_option maxHeartbeats 4000000 in
theorem c_goBy (d : Nat) (hT : WfT τ) (hR : RTc 4 τ σ) (hW : WfN τ ν) (hN : RNc 24 ν σ) (hd : nD ν ≤ 9) :
    yC (d + 4) 29 [.ref 24, .ref 4] σ (fun r σ' => r = some (.int (nI (wkP τ (tP τ) 0 ν).2)) ∧ RNc 24 (nDay τ ν) σ' ∧ xO 24 31 σ σ') := by
  have hA := hT.2.1
  have hP := hT.1
  refine C29 (Nat.le_of_ble_eq_true rfl) ?_
  simp only [lv_args, Value.category]
  rw [g29_0]
  simp only [g29_1, g29_2, g29_3, zldI, zldJ, zldR, zlk, zs1, zc1, zs2, zc2, Value.category, zdup_i, zdup_r, zdup2_i, zdup2_l, zrcv, zrm, ↓reduceIte, Nat.reduceAdd, Nat.reduceEqDiff, Nat.reduceLeDiff, Nat.reduceMul, and_false, false_and, and_true, true_and, List.map_cons, List.map_nil, List.sum_cons, List.sum_nil, Option.toList_some, Option.toList_none, List.cons_append, List.nil_append, or_true, true_or, or_false, false_or, Nat.add_zero, Nat.zero_add, Nat.one_ne_zero, Nat.zero_ne_one, not_false_eq_true, not_true_eq_false, implies_true, forall_const, exists_eq_left, reduceCtorEq, false_implies, true_implies, wA1, wA2, wI1, wI2, wJ1, wJ2, wJ3, wR1, wR2, wR31, wR32, zK_0, zfv_0_0, zfv_0_1, zfv_0_2, zfv_0_3, zfv_0_4, zfv_0_5, zfv_0_6, zfv_0_7, zfv_0_8, zfv_0_9, zK_1, zfv_1_0, zfv_1_1, zfv_1_2, zfv_1_3, zfv_1_4, zfv_1_5, zfv_1_6, zK_2, zLn_2, zK_3, zLn_3, zK_4, zfv_4_0, zfv_4_1, zfv_4_2, zfv_4_3, zfv_4_4, zfv_4_5, zfv_4_6, zfv_4_7, zfv_4_8, zfv_4_9, zfv_4_10, zfv_4_11, zK_5, zLn_5, zK_6, zLn_6, zK_7, zLn_7, zK_8, zLn_8, zK_9, zLn_9, zK_10, zLn_10, zK_11, zLn_11, zK_12, zLn_12, zK_13, zLn_13, zK_14, zfv_14_0, zfv_14_1, zfv_14_2, zfv_14_3, zfv_14_4, zfv_14_5, zfv_14_6, zfv_14_7, zfv_14_8, zfv_14_9, zfv_14_10, zfv_14_11, zK_15, zLn_15, zK_16, zLn_16, zK_17, zLn_17, zK_18, zLn_18, zK_19, zLn_19, zK_20, zLn_20, zK_21, zLn_21, zK_22, zLn_22, zK_23, zLn_23, zK_24, zfv_24_0, zfv_24_1, zfv_24_2, zfv_24_3, zfv_24_4, zfv_24_5, zfv_24_6, zfv_24_7, zfv_24_8, zfv_24_9, zK_25, zLn_25, zK_26, zLn_26, zK_27, zLn_27, zK_28, zLn_28, zK_29, zLn_29, zK_30, zLn_30, zK_31, zfv_31_0, zfv_31_1, zfv_31_2, zfv_31_3, zfv_31_4, zfv_31_5, zfv_31_6, zfv_31_7, zfv_31_8, zfv_31_9, zK_32, zLn_32, zK_33, zLn_33, zK_34, zLn_34, zK_35, zLn_35, zK_36, zLn_36, zK_37, zLn_37, zK_38, zfv_38_0, zfv_38_1, zfv_38_2, zfv_38_3, zfv_38_4, zfv_38_5, zfv_38_6, zfv_38_7, zfv_38_8, zfv_38_9, zK_39, zLn_39, zK_40, zLn_40, zK_41, zLn_41, zK_42, zLn_42, zK_43, zLn_43, zK_44, zLn_44, zK_45, zLn_45, zK_46, zLn_46, zK_47, zfv_47_0, zfv_47_1, zfv_47_2, zfv_47_3, zfv_47_4, zfv_47_5, zfv_47_6, zK_48, zLn_48, zK_49, zLn_49, zK_50, zLn_50, zK_51, zLn_51, zK_52, zLn_52, zK_53, zLn_53, zK_54, zLn_54, zK_55, zLn_55, zK_56, zLn_56, zK_57, zLn_57, zK_58, zLn_58, zK_59, zLn_59, zK_60, zfv_60_0, zfv_60_1, zfv_60_2, zK_61, zLn_61, zK_62, zfv_62_0, zK_63, zLn_63, zK_64, zfv_64_0, zfv_64_1, zfv_64_2, zfv_64_3, zfv_64_4, zfv_64_5, zfv_64_6, zfv_64_7, zfv_64_8, zfv_64_9, zfv_64_10, zfv_64_11, zfv_64_12, zfv_64_13, zfv_64_14, zfv_64_15, zfv_64_16, zfv_64_17, zfv_64_18, zfv_64_19, zfv_64_20, zfv_64_21, zfv_64_22, zfv_64_23, zfv_64_24, zfv_64_25, zfv_64_26, zfv_64_27, zK_65, zLn_65, zK_66, zLn_66, zK_67, zLn_67, zK_68, zLn_68, zK_69, zLn_69, zK_70, zLn_70, zK_71, zLn_71, zK_72, zLn_72, zK_73, zLn_73, zK_74, zLn_74, zK_75, zLn_75, zK_76, zLn_76, zK_77, zLn_77, zK_78, zLn_78, zK_79, zLn_79, zK_80, zLn_80, zK_81, zLn_81]
  suffices H : ∀ ν1 σ1 k, WfN τ ν1 → RNc 24 ν1 σ1 → xO 24 31 σ σ1 → Y29 (d + 3) (fun r σ' => r = some (.int (nI (k + (wkP τ (tP τ - 0) 0 ν1).2))) ∧ RNc 24 (nNext (duA τ (tA τ) 0 (wkP τ (tP τ - 0) 0 ν1).1)) σ' ∧ xO 24 31 σ σ') 4 [(0, .ref 24), (1, .ref 4), (2, .int (nI k)), (3, .int (nI 0))] [] σ1 by
    have h0 := H ν σ 0 hW hN (xO.rf σ)
    rw [Nat.zero_add] at h0
    exact h0
  refine yup (P := fun i => ∀ ν1 σ1 k, WfN τ ν1 → RNc 24 ν1 σ1 → xO 24 31 σ σ1 → Y29 (d + 3) (fun r σ' => r = some (.int (nI (k + (wkP τ (tP τ - i) i ν1).2))) ∧ RNc 24 (nNext (duA τ (tA τ) 0 (wkP τ (tP τ - i) i ν1).1)) σ' ∧ xO 24 31 σ σ') 4 [(0, .ref 24), (1, .ref 4), (2, .int (nI k)), (3, .int (nI i))] [] σ1) 0 (tP τ) (Nat.zero_le _) ?_ ?_
  · intro ν1 σ1 k hW1 hN1 hO1
    have e0 : σ1.1 4 0 = nI (tP τ) := by rw [hO1.1 4 (Or.inl (by decide))]; exact hR.1.1
    rw [g29_4]
    simp only [g29_5, g29_6, g29_9, g29_12, g29_13, g29_14, g29_15, g29_16, g29_27, g29_28, zldI, zldJ, zldR, zlk, zs1, zc1, zs2, zc2, Value.category, zdup_i, zdup_r, zdup2_i, zdup2_l, zrcv, zrm, ↓reduceIte, Nat.reduceAdd, Nat.reduceEqDiff, Nat.reduceLeDiff, Nat.reduceMul, and_false, false_and, and_true, true_and, List.map_cons, List.map_nil, List.sum_cons, List.sum_nil, Option.toList_some, Option.toList_none, List.cons_append, List.nil_append, or_true, true_or, or_false, false_or, Nat.add_zero, Nat.zero_add, Nat.one_ne_zero, Nat.zero_ne_one, not_false_eq_true, not_true_eq_false, implies_true, forall_const, exists_eq_left, reduceCtorEq, false_implies, true_implies, wA1, wA2, wI1, wI2, wJ1, wJ2, wJ3, wR1, wR2, wR31, wR32, zK_0, zfv_0_0, zfv_0_1, zfv_0_2, zfv_0_3, zfv_0_4, zfv_0_5, zfv_0_6, zfv_0_7, zfv_0_8, zfv_0_9, zK_1, zfv_1_0, zfv_1_1, zfv_1_2, zfv_1_3, zfv_1_4, zfv_1_5, zfv_1_6, zK_2, zLn_2, zK_3, zLn_3, zK_4, zfv_4_0, zfv_4_1, zfv_4_2, zfv_4_3, zfv_4_4, zfv_4_5, zfv_4_6, zfv_4_7, zfv_4_8, zfv_4_9, zfv_4_10, zfv_4_11, zK_5, zLn_5, zK_6, zLn_6, zK_7, zLn_7, zK_8, zLn_8, zK_9, zLn_9, zK_10, zLn_10, zK_11, zLn_11, zK_12, zLn_12, zK_13, zLn_13, zK_14, zfv_14_0, zfv_14_1, zfv_14_2, zfv_14_3, zfv_14_4, zfv_14_5, zfv_14_6, zfv_14_7, zfv_14_8, zfv_14_9, zfv_14_10, zfv_14_11, zK_15, zLn_15, zK_16, zLn_16, zK_17, zLn_17, zK_18, zLn_18, zK_19, zLn_19, zK_20, zLn_20, zK_21, zLn_21, zK_22, zLn_22, zK_23, zLn_23, zK_24, zfv_24_0, zfv_24_1, zfv_24_2, zfv_24_3, zfv_24_4, zfv_24_5, zfv_24_6, zfv_24_7, zfv_24_8, zfv_24_9, zK_25, zLn_25, zK_26, zLn_26, zK_27, zLn_27, zK_28, zLn_28, zK_29, zLn_29, zK_30, zLn_30, zK_31, zfv_31_0, zfv_31_1, zfv_31_2, zfv_31_3, zfv_31_4, zfv_31_5, zfv_31_6, zfv_31_7, zfv_31_8, zfv_31_9, zK_32, zLn_32, zK_33, zLn_33, zK_34, zLn_34, zK_35, zLn_35, zK_36, zLn_36, zK_37, zLn_37, zK_38, zfv_38_0, zfv_38_1, zfv_38_2, zfv_38_3, zfv_38_4, zfv_38_5, zfv_38_6, zfv_38_7, zfv_38_8, zfv_38_9, zK_39, zLn_39, zK_40, zLn_40, zK_41, zLn_41, zK_42, zLn_42, zK_43, zLn_43, zK_44, zLn_44, zK_45, zLn_45, zK_46, zLn_46, zK_47, zfv_47_0, zfv_47_1, zfv_47_2, zfv_47_3, zfv_47_4, zfv_47_5, zfv_47_6, zK_48, zLn_48, zK_49, zLn_49, zK_50, zLn_50, zK_51, zLn_51, zK_52, zLn_52, zK_53, zLn_53, zK_54, zLn_54, zK_55, zLn_55, zK_56, zLn_56, zK_57, zLn_57, zK_58, zLn_58, zK_59, zLn_59, zK_60, zfv_60_0, zfv_60_1, zfv_60_2, zK_61, zLn_61, zK_62, zfv_62_0, zK_63, zLn_63, zK_64, zfv_64_0, zfv_64_1, zfv_64_2, zfv_64_3, zfv_64_4, zfv_64_5, zfv_64_6, zfv_64_7, zfv_64_8, zfv_64_9, zfv_64_10, zfv_64_11, zfv_64_12, zfv_64_13, zfv_64_14, zfv_64_15, zfv_64_16, zfv_64_17, zfv_64_18, zfv_64_19, zfv_64_20, zfv_64_21, zfv_64_22, zfv_64_23, zfv_64_24, zfv_64_25, zfv_64_26, zfv_64_27, zK_65, zLn_65, zK_66, zLn_66, zK_67, zLn_67, zK_68, zLn_68, zK_69, zLn_69, zK_70, zLn_70, zK_71, zLn_71, zK_72, zLn_72, zK_73, zLn_73, zK_74, zLn_74, zK_75, zLn_75, zK_76, zLn_76, zK_77, zLn_77, zK_78, zLn_78, zK_79, zLn_79, zK_80, zLn_80, zK_81, zLn_81, e0]
    refine ⟨fun _ => ?_, fun h => absurd (nI_le (Nat.le_refl _) (by omega)) h⟩
    rw [Nat.sub_self]
    show Y29 (d + 3) (fun r σ' => r = some (.int (nI k)) ∧ RNc 24 (nNext (duA τ (tA τ) 0 ν1)) σ' ∧ xO 24 31 σ σ') 29 _ _ _
    suffices H : ∀ ν1 σ1, WfN τ ν1 → RNc 24 ν1 σ1 → xO 24 31 σ σ1 → Y29 (d + 3) (fun r σ' => r = some (.int (nI k)) ∧ RNc 24 (nNext (duA τ (tA τ - 0) 0 ν1)) σ' ∧ xO 24 31 σ σ') 29 [(0, .ref 24), (1, .ref 4), (2, .int (nI k)), (3, .int (nI 0))] [] σ1 from H ν1 σ1 hW1 hN1 hO1
    refine yup (P := fun a => ∀ ν1 σ1, WfN τ ν1 → RNc 24 ν1 σ1 → xO 24 31 σ σ1 → Y29 (d + 3) (fun r σ' => r = some (.int (nI k)) ∧ RNc 24 (nNext (duA τ (tA τ - a) a ν1)) σ' ∧ xO 24 31 σ σ') 29 [(0, .ref 24), (1, .ref 4), (2, .int (nI k)), (3, .int (nI a))] [] σ1) 0 (tA τ) (Nat.zero_le _) ?_ ?_
    · intro ν1 σ1 hW1 hN1 hO1
      have e4 : σ1.1 4 4 = nI (tA τ) := by rw [hO1.1 4 (Or.inl (by decide))]; exact hR.1.2.1
      rw [g29_29]
      simp only [g29_30, g29_31, g29_34, g29_37, g29_38, g29_41, g29_42, g29_43, g29_44, g29_47, g29_48, g29_51, g29_52, g29_53, g29_54, g29_57, g29_60, g29_61, g29_62, g29_63, g29_84, g29_85, g29_88, g29_89, g29_90, g29_93, g29_94, g29_97, g29_98, g29_99, g29_100, g29_103, g29_106, g29_107, g29_110, g29_111, g29_112, g29_113, g29_116, g29_119, g29_120, g29_121, g29_124, g29_125, g29_126, g29_129, g29_130, g29_131, g29_134, g29_135, zldI, zldJ, zldR, zlk, zs1, zc1, zs2, zc2, Value.category, zdup_i, zdup_r, zdup2_i, zdup2_l, zrcv, zrm, ↓reduceIte, Nat.reduceAdd, Nat.reduceEqDiff, Nat.reduceLeDiff, Nat.reduceMul, and_false, false_and, and_true, true_and, List.map_cons, List.map_nil, List.sum_cons, List.sum_nil, Option.toList_some, Option.toList_none, List.cons_append, List.nil_append, or_true, true_or, or_false, false_or, Nat.add_zero, Nat.zero_add, Nat.one_ne_zero, Nat.zero_ne_one, not_false_eq_true, not_true_eq_false, implies_true, forall_const, exists_eq_left, reduceCtorEq, false_implies, true_implies, wA1, wA2, wI1, wI2, wJ1, wJ2, wJ3, wR1, wR2, wR31, wR32, zK_0, zfv_0_0, zfv_0_1, zfv_0_2, zfv_0_3, zfv_0_4, zfv_0_5, zfv_0_6, zfv_0_7, zfv_0_8, zfv_0_9, zK_1, zfv_1_0, zfv_1_1, zfv_1_2, zfv_1_3, zfv_1_4, zfv_1_5, zfv_1_6, zK_2, zLn_2, zK_3, zLn_3, zK_4, zfv_4_0, zfv_4_1, zfv_4_2, zfv_4_3, zfv_4_4, zfv_4_5, zfv_4_6, zfv_4_7, zfv_4_8, zfv_4_9, zfv_4_10, zfv_4_11, zK_5, zLn_5, zK_6, zLn_6, zK_7, zLn_7, zK_8, zLn_8, zK_9, zLn_9, zK_10, zLn_10, zK_11, zLn_11, zK_12, zLn_12, zK_13, zLn_13, zK_14, zfv_14_0, zfv_14_1, zfv_14_2, zfv_14_3, zfv_14_4, zfv_14_5, zfv_14_6, zfv_14_7, zfv_14_8, zfv_14_9, zfv_14_10, zfv_14_11, zK_15, zLn_15, zK_16, zLn_16, zK_17, zLn_17, zK_18, zLn_18, zK_19, zLn_19, zK_20, zLn_20, zK_21, zLn_21, zK_22, zLn_22, zK_23, zLn_23, zK_24, zfv_24_0, zfv_24_1, zfv_24_2, zfv_24_3, zfv_24_4, zfv_24_5, zfv_24_6, zfv_24_7, zfv_24_8, zfv_24_9, zK_25, zLn_25, zK_26, zLn_26, zK_27, zLn_27, zK_28, zLn_28, zK_29, zLn_29, zK_30, zLn_30, zK_31, zfv_31_0, zfv_31_1, zfv_31_2, zfv_31_3, zfv_31_4, zfv_31_5, zfv_31_6, zfv_31_7, zfv_31_8, zfv_31_9, zK_32, zLn_32, zK_33, zLn_33, zK_34, zLn_34, zK_35, zLn_35, zK_36, zLn_36, zK_37, zLn_37, zK_38, zfv_38_0, zfv_38_1, zfv_38_2, zfv_38_3, zfv_38_4, zfv_38_5, zfv_38_6, zfv_38_7, zfv_38_8, zfv_38_9, zK_39, zLn_39, zK_40, zLn_40, zK_41, zLn_41, zK_42, zLn_42, zK_43, zLn_43, zK_44, zLn_44, zK_45, zLn_45, zK_46, zLn_46, zK_47, zfv_47_0, zfv_47_1, zfv_47_2, zfv_47_3, zfv_47_4, zfv_47_5, zfv_47_6, zK_48, zLn_48, zK_49, zLn_49, zK_50, zLn_50, zK_51, zLn_51, zK_52, zLn_52, zK_53, zLn_53, zK_54, zLn_54, zK_55, zLn_55, zK_56, zLn_56, zK_57, zLn_57, zK_58, zLn_58, zK_59, zLn_59, zK_60, zfv_60_0, zfv_60_1, zfv_60_2, zK_61, zLn_61, zK_62, zfv_62_0, zK_63, zLn_63, zK_64, zfv_64_0, zfv_64_1, zfv_64_2, zfv_64_3, zfv_64_4, zfv_64_5, zfv_64_6, zfv_64_7, zfv_64_8, zfv_64_9, zfv_64_10, zfv_64_11, zfv_64_12, zfv_64_13, zfv_64_14, zfv_64_15, zfv_64_16, zfv_64_17, zfv_64_18, zfv_64_19, zfv_64_20, zfv_64_21, zfv_64_22, zfv_64_23, zfv_64_24, zfv_64_25, zfv_64_26, zfv_64_27, zK_65, zLn_65, zK_66, zLn_66, zK_67, zLn_67, zK_68, zLn_68, zK_69, zLn_69, zK_70, zLn_70, zK_71, zLn_71, zK_72, zLn_72, zK_73, zLn_73, zK_74, zLn_74, zK_75, zLn_75, zK_76, zLn_76, zK_77, zLn_77, zK_78, zLn_78, zK_79, zLn_79, zK_80, zLn_80, zK_81, zLn_81, e4]
      refine ⟨fun _ => ?_, fun h => absurd (nI_le (Nat.le_refl _) (by omega)) h⟩
      rw [Nat.sub_self]
      refine ⟨?_, (hO1.wI (by decide) (by decide)).wI (by decide) (by decide)⟩
      obtain ⟨r1, r2, r3, r4⟩ := hN1
      refine ⟨?_, fun x hx => ?_, fun q hq => ?_, fun k e hk => ?_⟩
      · simp only [wI1, wA1, ↓reduceIte, Nat.reduceAdd, Nat.reduceEqDiff, upd]
        refine ⟨?_, r1.2.1, r1.2.2.1, rfl⟩
        rw [r1.1, nI_1]
        rfl
      · simp only [wI1, wA1, ↓reduceIte, Nat.reduceAdd, Nat.reduceEqDiff]; exact r2 x hx
      · simp only [wI1, wA1, ↓reduceIte, Nat.reduceAdd, Nat.reduceEqDiff]; exact r3 q hq
      · exact absurd hk (by show ¬ ([] : List aD)[k]? = some e; simp)
    · intro a _ ha ih ν1 σ1 hW1 hN1 hO1
      have e4 : σ1.1 4 4 = nI (tA τ) := by rw [hO1.1 4 (Or.inl (by decide))]; exact hR.1.2.1
      have hR1 : RTc 4 τ σ1 := xO_RT hR hO1
      have e25 : σ1.1 25 a = nI (nF ν1 a) := (hN1.2.1 a (by omega)).1
      have e12 : σ1.1 12 a = nI (τ.2 7 a) := (hR1.2.2.1 a ha).2.2.2.2
      have e9 : σ1.1 9 a = nI (τ.2 4 a) := (hR1.2.2.1 a ha).2.1
      have e11 : σ1.1 11 a = nI (τ.2 6 a) := (hR1.2.2.1 a ha).2.2.2.1
      have eD : σ1.1 24 0 = nI (nD ν1) := hN1.1.1
      have hD1 := hW1.1
      have hF3 := hW1.2.1 a
      have hT7 := hT.2.2.2.2.1 a ha
      have hu : tA τ - a = (tA τ - (a + 1)) + 1 := by omega
      have hwf := Wf_du1 (a := a) hT hW1
      rw [hu]
      have case2 : ∀ (hn : ¬ (nF ν1 a = 1 ∧ τ.2 7 a = nD ν1)), Y29 (d + 3) (fun r σ' => r = some (.int (nI k)) ∧ RNc 24 (nNext (duA τ (tA τ - (a + 1) + 1) a ν1)) σ' ∧ xO 24 31 σ σ') 84 [(0, .ref 24), (1, .ref 4), (2, .int (nI k)), (3, .int (nI a))] [] σ1 := by
        intro hn
        rw [g29_84]
        simp only [g29_85, g29_88, g29_89, g29_90, g29_93, g29_94, g29_97, g29_98, g29_99, g29_100, g29_103, g29_106, g29_107, g29_110, g29_111, g29_112, g29_113, g29_116, zldI, zldJ, zldR, zlk, zs1, zc1, zs2, zc2, Value.category, zdup_i, zdup_r, zdup2_i, zdup2_l, zrcv, zrm, ↓reduceIte, Nat.reduceAdd, Nat.reduceEqDiff, Nat.reduceLeDiff, Nat.reduceMul, and_false, false_and, and_true, true_and, List.map_cons, List.map_nil, List.sum_cons, List.sum_nil, Option.toList_some, Option.toList_none, List.cons_append, List.nil_append, or_true, true_or, or_false, false_or, Nat.add_zero, Nat.zero_add, Nat.one_ne_zero, Nat.zero_ne_one, not_false_eq_true, not_true_eq_false, implies_true, forall_const, exists_eq_left, reduceCtorEq, false_implies, true_implies, wA1, wA2, wI1, wI2, wJ1, wJ2, wJ3, wR1, wR2, wR31, wR32, zK_0, zfv_0_0, zfv_0_1, zfv_0_2, zfv_0_3, zfv_0_4, zfv_0_5, zfv_0_6, zfv_0_7, zfv_0_8, zfv_0_9, zK_1, zfv_1_0, zfv_1_1, zfv_1_2, zfv_1_3, zfv_1_4, zfv_1_5, zfv_1_6, zK_2, zLn_2, zK_3, zLn_3, zK_4, zfv_4_0, zfv_4_1, zfv_4_2, zfv_4_3, zfv_4_4, zfv_4_5, zfv_4_6, zfv_4_7, zfv_4_8, zfv_4_9, zfv_4_10, zfv_4_11, zK_5, zLn_5, zK_6, zLn_6, zK_7, zLn_7, zK_8, zLn_8, zK_9, zLn_9, zK_10, zLn_10, zK_11, zLn_11, zK_12, zLn_12, zK_13, zLn_13, zK_14, zfv_14_0, zfv_14_1, zfv_14_2, zfv_14_3, zfv_14_4, zfv_14_5, zfv_14_6, zfv_14_7, zfv_14_8, zfv_14_9, zfv_14_10, zfv_14_11, zK_15, zLn_15, zK_16, zLn_16, zK_17, zLn_17, zK_18, zLn_18, zK_19, zLn_19, zK_20, zLn_20, zK_21, zLn_21, zK_22, zLn_22, zK_23, zLn_23, zK_24, zfv_24_0, zfv_24_1, zfv_24_2, zfv_24_3, zfv_24_4, zfv_24_5, zfv_24_6, zfv_24_7, zfv_24_8, zfv_24_9, zK_25, zLn_25, zK_26, zLn_26, zK_27, zLn_27, zK_28, zLn_28, zK_29, zLn_29, zK_30, zLn_30, zK_31, zfv_31_0, zfv_31_1, zfv_31_2, zfv_31_3, zfv_31_4, zfv_31_5, zfv_31_6, zfv_31_7, zfv_31_8, zfv_31_9, zK_32, zLn_32, zK_33, zLn_33, zK_34, zLn_34, zK_35, zLn_35, zK_36, zLn_36, zK_37, zLn_37, zK_38, zfv_38_0, zfv_38_1, zfv_38_2, zfv_38_3, zfv_38_4, zfv_38_5, zfv_38_6, zfv_38_7, zfv_38_8, zfv_38_9, zK_39, zLn_39, zK_40, zLn_40, zK_41, zLn_41, zK_42, zLn_42, zK_43, zLn_43, zK_44, zLn_44, zK_45, zLn_45, zK_46, zLn_46, zK_47, zfv_47_0, zfv_47_1, zfv_47_2, zfv_47_3, zfv_47_4, zfv_47_5, zfv_47_6, zK_48, zLn_48, zK_49, zLn_49, zK_50, zLn_50, zK_51, zLn_51, zK_52, zLn_52, zK_53, zLn_53, zK_54, zLn_54, zK_55, zLn_55, zK_56, zLn_56, zK_57, zLn_57, zK_58, zLn_58, zK_59, zLn_59, zK_60, zfv_60_0, zfv_60_1, zfv_60_2, zK_61, zLn_61, zK_62, zfv_62_0, zK_63, zLn_63, zK_64, zfv_64_0, zfv_64_1, zfv_64_2, zfv_64_3, zfv_64_4, zfv_64_5, zfv_64_6, zfv_64_7, zfv_64_8, zfv_64_9, zfv_64_10, zfv_64_11, zfv_64_12, zfv_64_13, zfv_64_14, zfv_64_15, zfv_64_16, zfv_64_17, zfv_64_18, zfv_64_19, zfv_64_20, zfv_64_21, zfv_64_22, zfv_64_23, zfv_64_24, zfv_64_25, zfv_64_26, zfv_64_27, zK_65, zLn_65, zK_66, zLn_66, zK_67, zLn_67, zK_68, zLn_68, zK_69, zLn_69, zK_70, zLn_70, zK_71, zLn_71, zK_72, zLn_72, zK_73, zLn_73, zK_74, zLn_74, zK_75, zLn_75, zK_76, zLn_76, zK_77, zLn_77, zK_78, zLn_78, zK_79, zLn_79, zK_80, zLn_80, zK_81, zLn_81, nI_clamp (show a < 2 ^ 31 by omega), e25, e9, eD, nI_1]
        repeat (first | refine ⟨vp_in_nI (by omega) (by decide), ?_⟩ | refine ⟨(by unfold vp_in; decide), ?_⟩)
        have hdu : duA τ (tA τ - (a + 1) + 1) a ν1 = duA τ (tA τ - (a + 1)) (a + 1) (if nF ν1 a = 0 ∧ τ.2 4 a = nD ν1 then nFat ν1 a 3 else ν1) := by
          show duA τ _ (a + 1) (du1 τ a ν1) = _
          unfold du1
          rw [if_neg hn]
        have hwf2 : WfN τ (if nF ν1 a = 0 ∧ τ.2 4 a = nD ν1 then nFat ν1 a 3 else ν1) := by
          unfold du1 at hwf
          rw [if_neg hn] at hwf
          exact hwf
        rw [hdu]
        refine ⟨fun h => ?_, fun h => ?_⟩
        · have h0 : ¬ nF ν1 a = 0 := fun z => h (by rw [z]; rfl)
          rw [if_neg (fun z => h0 z.1)] at hwf2 ⊢
          exact ih ν1 σ1 hwf2 hN1 hO1
        · have h0 : nF ν1 a = 0 := (nI_eq (b := 0) (by omega) (by decide)).mp h
          repeat (first | refine ⟨vp_in_nI (by omega) (by decide), ?_⟩ | refine ⟨(by unfold vp_in; decide), ?_⟩)
          refine ⟨fun h2 => ?_, fun h2 => ?_⟩
          · have h3 : ¬ τ.2 4 a = nD ν1 := fun z => h2 (by rw [z])
            rw [if_neg (fun z => h3 z.2)] at hwf2 ⊢
            exact ih ν1 σ1 hwf2 hN1 hO1
          · have h3 : τ.2 4 a = nD ν1 := (nI_eq (by omega) (by omega)).mp h2
            rw [if_pos ⟨h0, h3⟩] at hwf2 ⊢
            repeat (first | refine ⟨vp_in_nI (by omega) (by decide), ?_⟩ | refine ⟨(by unfold vp_in; decide), ?_⟩)
            exact ih _ _ hwf2 (RNc_fat hN1 (by omega) (by decide)) (hO1.wI (by decide) (by decide))
      rw [g29_29]
      simp only [g29_30, g29_31, g29_34, g29_37, g29_38, g29_41, g29_42, g29_43, g29_44, g29_47, g29_48, g29_51, g29_52, g29_53, g29_54, g29_57, g29_60, g29_61, g29_62, g29_63, g29_119, g29_120, g29_121, g29_124, g29_125, g29_126, g29_129, g29_130, g29_131, g29_134, g29_135, zldI, zldJ, zldR, zlk, zs1, zc1, zs2, zc2, Value.category, zdup_i, zdup_r, zdup2_i, zdup2_l, zrcv, zrm, ↓reduceIte, Nat.reduceAdd, Nat.reduceEqDiff, Nat.reduceLeDiff, Nat.reduceMul, and_false, false_and, and_true, true_and, List.map_cons, List.map_nil, List.sum_cons, List.sum_nil, Option.toList_some, Option.toList_none, List.cons_append, List.nil_append, or_true, true_or, or_false, false_or, Nat.add_zero, Nat.zero_add, Nat.one_ne_zero, Nat.zero_ne_one, not_false_eq_true, not_true_eq_false, implies_true, forall_const, exists_eq_left, reduceCtorEq, false_implies, true_implies, wA1, wA2, wI1, wI2, wJ1, wJ2, wJ3, wR1, wR2, wR31, wR32, zK_0, zfv_0_0, zfv_0_1, zfv_0_2, zfv_0_3, zfv_0_4, zfv_0_5, zfv_0_6, zfv_0_7, zfv_0_8, zfv_0_9, zK_1, zfv_1_0, zfv_1_1, zfv_1_2, zfv_1_3, zfv_1_4, zfv_1_5, zfv_1_6, zK_2, zLn_2, zK_3, zLn_3, zK_4, zfv_4_0, zfv_4_1, zfv_4_2, zfv_4_3, zfv_4_4, zfv_4_5, zfv_4_6, zfv_4_7, zfv_4_8, zfv_4_9, zfv_4_10, zfv_4_11, zK_5, zLn_5, zK_6, zLn_6, zK_7, zLn_7, zK_8, zLn_8, zK_9, zLn_9, zK_10, zLn_10, zK_11, zLn_11, zK_12, zLn_12, zK_13, zLn_13, zK_14, zfv_14_0, zfv_14_1, zfv_14_2, zfv_14_3, zfv_14_4, zfv_14_5, zfv_14_6, zfv_14_7, zfv_14_8, zfv_14_9, zfv_14_10, zfv_14_11, zK_15, zLn_15, zK_16, zLn_16, zK_17, zLn_17, zK_18, zLn_18, zK_19, zLn_19, zK_20, zLn_20, zK_21, zLn_21, zK_22, zLn_22, zK_23, zLn_23, zK_24, zfv_24_0, zfv_24_1, zfv_24_2, zfv_24_3, zfv_24_4, zfv_24_5, zfv_24_6, zfv_24_7, zfv_24_8, zfv_24_9, zK_25, zLn_25, zK_26, zLn_26, zK_27, zLn_27, zK_28, zLn_28, zK_29, zLn_29, zK_30, zLn_30, zK_31, zfv_31_0, zfv_31_1, zfv_31_2, zfv_31_3, zfv_31_4, zfv_31_5, zfv_31_6, zfv_31_7, zfv_31_8, zfv_31_9, zK_32, zLn_32, zK_33, zLn_33, zK_34, zLn_34, zK_35, zLn_35, zK_36, zLn_36, zK_37, zLn_37, zK_38, zfv_38_0, zfv_38_1, zfv_38_2, zfv_38_3, zfv_38_4, zfv_38_5, zfv_38_6, zfv_38_7, zfv_38_8, zfv_38_9, zK_39, zLn_39, zK_40, zLn_40, zK_41, zLn_41, zK_42, zLn_42, zK_43, zLn_43, zK_44, zLn_44, zK_45, zLn_45, zK_46, zLn_46, zK_47, zfv_47_0, zfv_47_1, zfv_47_2, zfv_47_3, zfv_47_4, zfv_47_5, zfv_47_6, zK_48, zLn_48, zK_49, zLn_49, zK_50, zLn_50, zK_51, zLn_51, zK_52, zLn_52, zK_53, zLn_53, zK_54, zLn_54, zK_55, zLn_55, zK_56, zLn_56, zK_57, zLn_57, zK_58, zLn_58, zK_59, zLn_59, zK_60, zfv_60_0, zfv_60_1, zfv_60_2, zK_61, zLn_61, zK_62, zfv_62_0, zK_63, zLn_63, zK_64, zfv_64_0, zfv_64_1, zfv_64_2, zfv_64_3, zfv_64_4, zfv_64_5, zfv_64_6, zfv_64_7, zfv_64_8, zfv_64_9, zfv_64_10, zfv_64_11, zfv_64_12, zfv_64_13, zfv_64_14, zfv_64_15, zfv_64_16, zfv_64_17, zfv_64_18, zfv_64_19, zfv_64_20, zfv_64_21, zfv_64_22, zfv_64_23, zfv_64_24, zfv_64_25, zfv_64_26, zfv_64_27, zK_65, zLn_65, zK_66, zLn_66, zK_67, zLn_67, zK_68, zLn_68, zK_69, zLn_69, zK_70, zLn_70, zK_71, zLn_71, zK_72, zLn_72, zK_73, zLn_73, zK_74, zLn_74, zK_75, zLn_75, zK_76, zLn_76, zK_77, zLn_77, zK_78, zLn_78, zK_79, zLn_79, zK_80, zLn_80, zK_81, zLn_81, nI_clamp (show a < 2 ^ 31 by omega), e4, e25, e12, eD, nI_1]
      refine ⟨fun h => absurd h (nI_ge ha (by omega)), fun _ => ?_⟩
      repeat (first | refine ⟨vp_in_nI (by omega) (by decide), ?_⟩ | refine ⟨(by unfold vp_in; decide), ?_⟩)
      refine ⟨fun h => case2 (fun z => h (by rw [z.1]; rfl)), fun h => ?_⟩
      have h1 : nF ν1 a = 1 := (nI_eq (b := 1) (by omega) (by decide)).mp h
      repeat (first | refine ⟨vp_in_nI (by omega) (by decide), ?_⟩ | refine ⟨(by unfold vp_in; decide), ?_⟩)
      refine ⟨fun h => case2 (fun z => h (by rw [z.2])), fun h => ?_⟩
      have h2 : τ.2 7 a = nD ν1 := (nI_eq (by omega) (by omega)).mp h
      refine ycall (c_unpin _ (f := 3) hT hW1 hN1 (idx_at (slv_at hT hW1 h1)) (by decide)) ?_
      rintro _ σ2 ⟨rfl, hN2, hO2, -⟩
      have hO3 := hO1.trans hO2
      have e11 : σ2.1 11 a = nI (τ.2 6 a) := by rw [hO2.1 11 (Or.inl (by decide))]; exact e11
      have el : σ2.1 24 2 = nL ν1 := hN2.1.2.2.1
      simp only [Option.toList_none, List.nil_append]
      have hN3 := RNc_add (x := nI (τ.2 6 a)) hN2
      have hdu : du1 τ a ν1 = nAdd (nUnpin ν1 (slv ν1 a) ((nS ν1 (slv ν1 a)).idxOf a) a 3) (nI (τ.2 6 a)) := by
        unfold du1
        rw [if_pos ⟨h1, h2⟩]
      rw [show duA τ (tA τ - (a + 1) + 1) a ν1 = duA τ (tA τ - (a + 1)) (a + 1) (du1 τ a ν1) from rfl, hdu]
      rw [hdu] at hwf
      rw [g29_66]
      simp only [g29_67, g29_68, g29_71, g29_72, g29_75, g29_76, g29_77, g29_78, g29_81, g29_113, g29_116, zldI, zldJ, zldR, zlk, zs1, zc1, zs2, zc2, Value.category, zdup_i, zdup_r, zdup2_i, zdup2_l, zrcv, zrm, ↓reduceIte, Nat.reduceAdd, Nat.reduceEqDiff, Nat.reduceLeDiff, Nat.reduceMul, and_false, false_and, and_true, true_and, List.map_cons, List.map_nil, List.sum_cons, List.sum_nil, Option.toList_some, Option.toList_none, List.cons_append, List.nil_append, or_true, true_or, or_false, false_or, Nat.add_zero, Nat.zero_add, Nat.one_ne_zero, Nat.zero_ne_one, not_false_eq_true, not_true_eq_false, implies_true, forall_const, exists_eq_left, reduceCtorEq, false_implies, true_implies, wA1, wA2, wI1, wI2, wJ1, wJ2, wJ3, wR1, wR2, wR31, wR32, zK_0, zfv_0_0, zfv_0_1, zfv_0_2, zfv_0_3, zfv_0_4, zfv_0_5, zfv_0_6, zfv_0_7, zfv_0_8, zfv_0_9, zK_1, zfv_1_0, zfv_1_1, zfv_1_2, zfv_1_3, zfv_1_4, zfv_1_5, zfv_1_6, zK_2, zLn_2, zK_3, zLn_3, zK_4, zfv_4_0, zfv_4_1, zfv_4_2, zfv_4_3, zfv_4_4, zfv_4_5, zfv_4_6, zfv_4_7, zfv_4_8, zfv_4_9, zfv_4_10, zfv_4_11, zK_5, zLn_5, zK_6, zLn_6, zK_7, zLn_7, zK_8, zLn_8, zK_9, zLn_9, zK_10, zLn_10, zK_11, zLn_11, zK_12, zLn_12, zK_13, zLn_13, zK_14, zfv_14_0, zfv_14_1, zfv_14_2, zfv_14_3, zfv_14_4, zfv_14_5, zfv_14_6, zfv_14_7, zfv_14_8, zfv_14_9, zfv_14_10, zfv_14_11, zK_15, zLn_15, zK_16, zLn_16, zK_17, zLn_17, zK_18, zLn_18, zK_19, zLn_19, zK_20, zLn_20, zK_21, zLn_21, zK_22, zLn_22, zK_23, zLn_23, zK_24, zfv_24_0, zfv_24_1, zfv_24_2, zfv_24_3, zfv_24_4, zfv_24_5, zfv_24_6, zfv_24_7, zfv_24_8, zfv_24_9, zK_25, zLn_25, zK_26, zLn_26, zK_27, zLn_27, zK_28, zLn_28, zK_29, zLn_29, zK_30, zLn_30, zK_31, zfv_31_0, zfv_31_1, zfv_31_2, zfv_31_3, zfv_31_4, zfv_31_5, zfv_31_6, zfv_31_7, zfv_31_8, zfv_31_9, zK_32, zLn_32, zK_33, zLn_33, zK_34, zLn_34, zK_35, zLn_35, zK_36, zLn_36, zK_37, zLn_37, zK_38, zfv_38_0, zfv_38_1, zfv_38_2, zfv_38_3, zfv_38_4, zfv_38_5, zfv_38_6, zfv_38_7, zfv_38_8, zfv_38_9, zK_39, zLn_39, zK_40, zLn_40, zK_41, zLn_41, zK_42, zLn_42, zK_43, zLn_43, zK_44, zLn_44, zK_45, zLn_45, zK_46, zLn_46, zK_47, zfv_47_0, zfv_47_1, zfv_47_2, zfv_47_3, zfv_47_4, zfv_47_5, zfv_47_6, zK_48, zLn_48, zK_49, zLn_49, zK_50, zLn_50, zK_51, zLn_51, zK_52, zLn_52, zK_53, zLn_53, zK_54, zLn_54, zK_55, zLn_55, zK_56, zLn_56, zK_57, zLn_57, zK_58, zLn_58, zK_59, zLn_59, zK_60, zfv_60_0, zfv_60_1, zfv_60_2, zK_61, zLn_61, zK_62, zfv_62_0, zK_63, zLn_63, zK_64, zfv_64_0, zfv_64_1, zfv_64_2, zfv_64_3, zfv_64_4, zfv_64_5, zfv_64_6, zfv_64_7, zfv_64_8, zfv_64_9, zfv_64_10, zfv_64_11, zfv_64_12, zfv_64_13, zfv_64_14, zfv_64_15, zfv_64_16, zfv_64_17, zfv_64_18, zfv_64_19, zfv_64_20, zfv_64_21, zfv_64_22, zfv_64_23, zfv_64_24, zfv_64_25, zfv_64_26, zfv_64_27, zK_65, zLn_65, zK_66, zLn_66, zK_67, zLn_67, zK_68, zLn_68, zK_69, zLn_69, zK_70, zLn_70, zK_71, zLn_71, zK_72, zLn_72, zK_73, zLn_73, zK_74, zLn_74, zK_75, zLn_75, zK_76, zLn_76, zK_77, zLn_77, zK_78, zLn_78, zK_79, zLn_79, zK_80, zLn_80, zK_81, zLn_81, nI_clamp (show a < 2 ^ 31 by omega), e11, el, nI_1]
      repeat (first | refine ⟨vp_in_nI (by omega) (by decide), ?_⟩ | refine ⟨(by unfold vp_in; decide), ?_⟩)
      exact ih _ _ hwf hN3 (hO3.wI (by decide) (by decide))
  · intro i _ hi ih ν1 σ1 k hW1 hN1 hO1
    have e0 : σ1.1 4 0 = nI (tP τ) := by rw [hO1.1 4 (Or.inl (by decide))]; exact hR.1.1
    have hR1 : RTc 4 τ σ1 := xO_RT hR hO1
    rw [g29_4]
    simp only [g29_5, g29_6, g29_9, g29_12, g29_13, g29_14, g29_15, g29_16, g29_27, g29_28, zldI, zldJ, zldR, zlk, zs1, zc1, zs2, zc2, Value.category, zdup_i, zdup_r, zdup2_i, zdup2_l, zrcv, zrm, ↓reduceIte, Nat.reduceAdd, Nat.reduceEqDiff, Nat.reduceLeDiff, Nat.reduceMul, and_false, false_and, and_true, true_and, List.map_cons, List.map_nil, List.sum_cons, List.sum_nil, Option.toList_some, Option.toList_none, List.cons_append, List.nil_append, or_true, true_or, or_false, false_or, Nat.add_zero, Nat.zero_add, Nat.one_ne_zero, Nat.zero_ne_one, not_false_eq_true, not_true_eq_false, implies_true, forall_const, exists_eq_left, reduceCtorEq, false_implies, true_implies, wA1, wA2, wI1, wI2, wJ1, wJ2, wJ3, wR1, wR2, wR31, wR32, zK_0, zfv_0_0, zfv_0_1, zfv_0_2, zfv_0_3, zfv_0_4, zfv_0_5, zfv_0_6, zfv_0_7, zfv_0_8, zfv_0_9, zK_1, zfv_1_0, zfv_1_1, zfv_1_2, zfv_1_3, zfv_1_4, zfv_1_5, zfv_1_6, zK_2, zLn_2, zK_3, zLn_3, zK_4, zfv_4_0, zfv_4_1, zfv_4_2, zfv_4_3, zfv_4_4, zfv_4_5, zfv_4_6, zfv_4_7, zfv_4_8, zfv_4_9, zfv_4_10, zfv_4_11, zK_5, zLn_5, zK_6, zLn_6, zK_7, zLn_7, zK_8, zLn_8, zK_9, zLn_9, zK_10, zLn_10, zK_11, zLn_11, zK_12, zLn_12, zK_13, zLn_13, zK_14, zfv_14_0, zfv_14_1, zfv_14_2, zfv_14_3, zfv_14_4, zfv_14_5, zfv_14_6, zfv_14_7, zfv_14_8, zfv_14_9, zfv_14_10, zfv_14_11, zK_15, zLn_15, zK_16, zLn_16, zK_17, zLn_17, zK_18, zLn_18, zK_19, zLn_19, zK_20, zLn_20, zK_21, zLn_21, zK_22, zLn_22, zK_23, zLn_23, zK_24, zfv_24_0, zfv_24_1, zfv_24_2, zfv_24_3, zfv_24_4, zfv_24_5, zfv_24_6, zfv_24_7, zfv_24_8, zfv_24_9, zK_25, zLn_25, zK_26, zLn_26, zK_27, zLn_27, zK_28, zLn_28, zK_29, zLn_29, zK_30, zLn_30, zK_31, zfv_31_0, zfv_31_1, zfv_31_2, zfv_31_3, zfv_31_4, zfv_31_5, zfv_31_6, zfv_31_7, zfv_31_8, zfv_31_9, zK_32, zLn_32, zK_33, zLn_33, zK_34, zLn_34, zK_35, zLn_35, zK_36, zLn_36, zK_37, zLn_37, zK_38, zfv_38_0, zfv_38_1, zfv_38_2, zfv_38_3, zfv_38_4, zfv_38_5, zfv_38_6, zfv_38_7, zfv_38_8, zfv_38_9, zK_39, zLn_39, zK_40, zLn_40, zK_41, zLn_41, zK_42, zLn_42, zK_43, zLn_43, zK_44, zLn_44, zK_45, zLn_45, zK_46, zLn_46, zK_47, zfv_47_0, zfv_47_1, zfv_47_2, zfv_47_3, zfv_47_4, zfv_47_5, zfv_47_6, zK_48, zLn_48, zK_49, zLn_49, zK_50, zLn_50, zK_51, zLn_51, zK_52, zLn_52, zK_53, zLn_53, zK_54, zLn_54, zK_55, zLn_55, zK_56, zLn_56, zK_57, zLn_57, zK_58, zLn_58, zK_59, zLn_59, zK_60, zfv_60_0, zfv_60_1, zfv_60_2, zK_61, zLn_61, zK_62, zfv_62_0, zK_63, zLn_63, zK_64, zfv_64_0, zfv_64_1, zfv_64_2, zfv_64_3, zfv_64_4, zfv_64_5, zfv_64_6, zfv_64_7, zfv_64_8, zfv_64_9, zfv_64_10, zfv_64_11, zfv_64_12, zfv_64_13, zfv_64_14, zfv_64_15, zfv_64_16, zfv_64_17, zfv_64_18, zfv_64_19, zfv_64_20, zfv_64_21, zfv_64_22, zfv_64_23, zfv_64_24, zfv_64_25, zfv_64_26, zfv_64_27, zK_65, zLn_65, zK_66, zLn_66, zK_67, zLn_67, zK_68, zLn_68, zK_69, zLn_69, zK_70, zLn_70, zK_71, zLn_71, zK_72, zLn_72, zK_73, zLn_73, zK_74, zLn_74, zK_75, zLn_75, zK_76, zLn_76, zK_77, zLn_77, zK_78, zLn_78, zK_79, zLn_79, zK_80, zLn_80, zK_81, zLn_81, e0]
    refine ⟨fun h => absurd h (nI_ge hi (by omega)), fun _ => ?_⟩
    refine ycall (c_workOf _ hT hR1 hW1 hN1 hi) ?_
    rintro _ σ2 ⟨rfl, hN2, hO2⟩
    simp only [Option.toList_some, List.cons_append, List.nil_append]
    rw [show tP τ - i = (tP τ - (i + 1)) + 1 by omega]
    show Y29 (d + 3) (fun r σ' => r = some (.int (nI (k + ((wkU τ i (τ.2 1 i) ν1).2 + (wkP τ (tP τ - (i + 1)) (i + 1) (wkU τ i (τ.2 1 i) ν1).1).2)))) ∧ RNc 24 (nNext (duA τ (tA τ) 0 (wkP τ (tP τ - (i + 1)) (i + 1) (wkU τ i (τ.2 1 i) ν1).1).1)) σ' ∧ xO 24 31 σ σ') 19 _ _ _
    rw [g29_19]
    simp only [g29_20, g29_21, g29_24, zldI, zldJ, zldR, zlk, zs1, zc1, zs2, zc2, Value.category, zdup_i, zdup_r, zdup2_i, zdup2_l, zrcv, zrm, ↓reduceIte, Nat.reduceAdd, Nat.reduceEqDiff, Nat.reduceLeDiff, Nat.reduceMul, and_false, false_and, and_true, true_and, List.map_cons, List.map_nil, List.sum_cons, List.sum_nil, Option.toList_some, Option.toList_none, List.cons_append, List.nil_append, or_true, true_or, or_false, false_or, Nat.add_zero, Nat.zero_add, Nat.one_ne_zero, Nat.zero_ne_one, not_false_eq_true, not_true_eq_false, implies_true, forall_const, exists_eq_left, reduceCtorEq, false_implies, true_implies, wA1, wA2, wI1, wI2, wJ1, wJ2, wJ3, wR1, wR2, wR31, wR32, zK_0, zfv_0_0, zfv_0_1, zfv_0_2, zfv_0_3, zfv_0_4, zfv_0_5, zfv_0_6, zfv_0_7, zfv_0_8, zfv_0_9, zK_1, zfv_1_0, zfv_1_1, zfv_1_2, zfv_1_3, zfv_1_4, zfv_1_5, zfv_1_6, zK_2, zLn_2, zK_3, zLn_3, zK_4, zfv_4_0, zfv_4_1, zfv_4_2, zfv_4_3, zfv_4_4, zfv_4_5, zfv_4_6, zfv_4_7, zfv_4_8, zfv_4_9, zfv_4_10, zfv_4_11, zK_5, zLn_5, zK_6, zLn_6, zK_7, zLn_7, zK_8, zLn_8, zK_9, zLn_9, zK_10, zLn_10, zK_11, zLn_11, zK_12, zLn_12, zK_13, zLn_13, zK_14, zfv_14_0, zfv_14_1, zfv_14_2, zfv_14_3, zfv_14_4, zfv_14_5, zfv_14_6, zfv_14_7, zfv_14_8, zfv_14_9, zfv_14_10, zfv_14_11, zK_15, zLn_15, zK_16, zLn_16, zK_17, zLn_17, zK_18, zLn_18, zK_19, zLn_19, zK_20, zLn_20, zK_21, zLn_21, zK_22, zLn_22, zK_23, zLn_23, zK_24, zfv_24_0, zfv_24_1, zfv_24_2, zfv_24_3, zfv_24_4, zfv_24_5, zfv_24_6, zfv_24_7, zfv_24_8, zfv_24_9, zK_25, zLn_25, zK_26, zLn_26, zK_27, zLn_27, zK_28, zLn_28, zK_29, zLn_29, zK_30, zLn_30, zK_31, zfv_31_0, zfv_31_1, zfv_31_2, zfv_31_3, zfv_31_4, zfv_31_5, zfv_31_6, zfv_31_7, zfv_31_8, zfv_31_9, zK_32, zLn_32, zK_33, zLn_33, zK_34, zLn_34, zK_35, zLn_35, zK_36, zLn_36, zK_37, zLn_37, zK_38, zfv_38_0, zfv_38_1, zfv_38_2, zfv_38_3, zfv_38_4, zfv_38_5, zfv_38_6, zfv_38_7, zfv_38_8, zfv_38_9, zK_39, zLn_39, zK_40, zLn_40, zK_41, zLn_41, zK_42, zLn_42, zK_43, zLn_43, zK_44, zLn_44, zK_45, zLn_45, zK_46, zLn_46, zK_47, zfv_47_0, zfv_47_1, zfv_47_2, zfv_47_3, zfv_47_4, zfv_47_5, zfv_47_6, zK_48, zLn_48, zK_49, zLn_49, zK_50, zLn_50, zK_51, zLn_51, zK_52, zLn_52, zK_53, zLn_53, zK_54, zLn_54, zK_55, zLn_55, zK_56, zLn_56, zK_57, zLn_57, zK_58, zLn_58, zK_59, zLn_59, zK_60, zfv_60_0, zfv_60_1, zfv_60_2, zK_61, zLn_61, zK_62, zfv_62_0, zK_63, zLn_63, zK_64, zfv_64_0, zfv_64_1, zfv_64_2, zfv_64_3, zfv_64_4, zfv_64_5, zfv_64_6, zfv_64_7, zfv_64_8, zfv_64_9, zfv_64_10, zfv_64_11, zfv_64_12, zfv_64_13, zfv_64_14, zfv_64_15, zfv_64_16, zfv_64_17, zfv_64_18, zfv_64_19, zfv_64_20, zfv_64_21, zfv_64_22, zfv_64_23, zfv_64_24, zfv_64_25, zfv_64_26, zfv_64_27, zK_65, zLn_65, zK_66, zLn_66, zK_67, zLn_67, zK_68, zLn_68, zK_69, zLn_69, zK_70, zLn_70, zK_71, zLn_71, zK_72, zLn_72, zK_73, zLn_73, zK_74, zLn_74, zK_75, zLn_75, zK_76, zLn_76, zK_77, zLn_77, zK_78, zLn_78, zK_79, zLn_79, zK_80, zLn_80, zK_81, zLn_81, nI_add, nI_1]
    rw [← Nat.add_assoc]
    exact ih _ _ _ (Wf_wkU _ hW1) hN2 (hO1.trans hO2)
set_option maxHeartbeats 1000000 in
theorem c_day (d : Nat) (hs : σ.2.2 = (4, 14)) (hT : WfT τ) (hR : RTc 4 τ σ) (hW : WfN τ ν) (hN : RNc 24 ν σ) (hd : nD ν ≤ 9) :
    yC (d + 5) 66 [.ref 0] σ (fun r σ' => r = some (.int (nI (wkP τ (tP τ) 0 ν).2)) ∧ RNc 24 (nDay τ ν) σ' ∧ xO 24 31 σ σ') := by
  have eD : σ.1 24 0 = nI (nD ν) := hN.1.1
  refine C66 (Nat.le_of_ble_eq_true rfl) ?_
  simp only [lv_args, Value.category]
  rw [g66_0]
  simp only [g66_1, g66_4, g66_7, g66_9, g66_12, g66_14, g66_15, g66_16, g66_19, g66_20, g66_23, zldI, zldJ, zldR, zlk, zs1, zc1, zs2, zc2, Value.category, zdup_i, zdup_r, zdup2_i, zdup2_l, zrcv, zrm, ↓reduceIte, Nat.reduceAdd, Nat.reduceEqDiff, Nat.reduceLeDiff, Nat.reduceMul, and_false, false_and, and_true, true_and, List.map_cons, List.map_nil, List.sum_cons, List.sum_nil, Option.toList_some, Option.toList_none, List.cons_append, List.nil_append, or_true, true_or, or_false, false_or, Nat.add_zero, Nat.zero_add, Nat.one_ne_zero, Nat.zero_ne_one, not_false_eq_true, not_true_eq_false, implies_true, forall_const, exists_eq_left, reduceCtorEq, false_implies, true_implies, wA1, wA2, wI1, wI2, wJ1, wJ2, wJ3, wR1, wR2, wR31, wR32, zK_0, zfv_0_0, zfv_0_1, zfv_0_2, zfv_0_3, zfv_0_4, zfv_0_5, zfv_0_6, zfv_0_7, zfv_0_8, zfv_0_9, zK_1, zfv_1_0, zfv_1_1, zfv_1_2, zfv_1_3, zfv_1_4, zfv_1_5, zfv_1_6, zK_2, zLn_2, zK_3, zLn_3, zK_4, zfv_4_0, zfv_4_1, zfv_4_2, zfv_4_3, zfv_4_4, zfv_4_5, zfv_4_6, zfv_4_7, zfv_4_8, zfv_4_9, zfv_4_10, zfv_4_11, zK_5, zLn_5, zK_6, zLn_6, zK_7, zLn_7, zK_8, zLn_8, zK_9, zLn_9, zK_10, zLn_10, zK_11, zLn_11, zK_12, zLn_12, zK_13, zLn_13, zK_14, zfv_14_0, zfv_14_1, zfv_14_2, zfv_14_3, zfv_14_4, zfv_14_5, zfv_14_6, zfv_14_7, zfv_14_8, zfv_14_9, zfv_14_10, zfv_14_11, zK_15, zLn_15, zK_16, zLn_16, zK_17, zLn_17, zK_18, zLn_18, zK_19, zLn_19, zK_20, zLn_20, zK_21, zLn_21, zK_22, zLn_22, zK_23, zLn_23, zK_24, zfv_24_0, zfv_24_1, zfv_24_2, zfv_24_3, zfv_24_4, zfv_24_5, zfv_24_6, zfv_24_7, zfv_24_8, zfv_24_9, zK_25, zLn_25, zK_26, zLn_26, zK_27, zLn_27, zK_28, zLn_28, zK_29, zLn_29, zK_30, zLn_30, zK_31, zfv_31_0, zfv_31_1, zfv_31_2, zfv_31_3, zfv_31_4, zfv_31_5, zfv_31_6, zfv_31_7, zfv_31_8, zfv_31_9, zK_32, zLn_32, zK_33, zLn_33, zK_34, zLn_34, zK_35, zLn_35, zK_36, zLn_36, zK_37, zLn_37, zK_38, zfv_38_0, zfv_38_1, zfv_38_2, zfv_38_3, zfv_38_4, zfv_38_5, zfv_38_6, zfv_38_7, zfv_38_8, zfv_38_9, zK_39, zLn_39, zK_40, zLn_40, zK_41, zLn_41, zK_42, zLn_42, zK_43, zLn_43, zK_44, zLn_44, zK_45, zLn_45, zK_46, zLn_46, zK_47, zfv_47_0, zfv_47_1, zfv_47_2, zfv_47_3, zfv_47_4, zfv_47_5, zfv_47_6, zK_48, zLn_48, zK_49, zLn_49, zK_50, zLn_50, zK_51, zLn_51, zK_52, zLn_52, zK_53, zLn_53, zK_54, zLn_54, zK_55, zLn_55, zK_56, zLn_56, zK_57, zLn_57, zK_58, zLn_58, zK_59, zLn_59, zK_60, zfv_60_0, zfv_60_1, zfv_60_2, zK_61, zLn_61, zK_62, zfv_62_0, zK_63, zLn_63, zK_64, zfv_64_0, zfv_64_1, zfv_64_2, zfv_64_3, zfv_64_4, zfv_64_5, zfv_64_6, zfv_64_7, zfv_64_8, zfv_64_9, zfv_64_10, zfv_64_11, zfv_64_12, zfv_64_13, zfv_64_14, zfv_64_15, zfv_64_16, zfv_64_17, zfv_64_18, zfv_64_19, zfv_64_20, zfv_64_21, zfv_64_22, zfv_64_23, zfv_64_24, zfv_64_25, zfv_64_26, zfv_64_27, zK_65, zLn_65, zK_66, zLn_66, zK_67, zLn_67, zK_68, zLn_68, zK_69, zLn_69, zK_70, zLn_70, zK_71, zLn_71, zK_72, zLn_72, zK_73, zLn_73, zK_74, zLn_74, zK_75, zLn_75, zK_76, zLn_76, zK_77, zLn_77, zK_78, zLn_78, zK_79, zLn_79, zK_80, zLn_80, zK_81, zLn_81, hs, eD]
  refine ⟨fun _ => ?_, fun h => absurd (nI_le (b := 9) hd (by decide)) h⟩
  refine ycall (c_goBy _ hT hR hW hN hd) ?_
  rintro r σ2 ⟨rfl, h2, h3⟩
  simp only [Option.toList_some, List.cons_append, List.nil_append]
  rw [g66_26]
  exact ⟨rfl, h2, h3⟩
theorem c_day_no (d : Nat) (hN : RNc 24 ν σ) (hd : nD ν = 10) : yC (d + 5) 66 [.ref 0] σ (fun r σ' => r = some (.int (-2)) ∧ σ' = σ) := by
  have eD : σ.1 24 0 = nI 10 := hd ▸ hN.1.1
  refine C66 (Nat.le_of_ble_eq_true rfl) ?_
  simp only [lv_args, Value.category]
  rw [g66_0]
  simp only [g66_1, g66_4, g66_7, g66_9, g66_12, g66_14, g66_15, g66_16, g66_19, g66_20, g66_23, zldI, zldJ, zldR, zlk, zs1, zc1, zs2, zc2, Value.category, zdup_i, zdup_r, zdup2_i, zdup2_l, zrcv, zrm, ↓reduceIte, Nat.reduceAdd, Nat.reduceEqDiff, Nat.reduceLeDiff, Nat.reduceMul, and_false, false_and, and_true, true_and, List.map_cons, List.map_nil, List.sum_cons, List.sum_nil, Option.toList_some, Option.toList_none, List.cons_append, List.nil_append, or_true, true_or, or_false, false_or, Nat.add_zero, Nat.zero_add, Nat.one_ne_zero, Nat.zero_ne_one, not_false_eq_true, not_true_eq_false, implies_true, forall_const, exists_eq_left, reduceCtorEq, false_implies, true_implies, wA1, wA2, wI1, wI2, wJ1, wJ2, wJ3, wR1, wR2, wR31, wR32, zK_0, zfv_0_0, zfv_0_1, zfv_0_2, zfv_0_3, zfv_0_4, zfv_0_5, zfv_0_6, zfv_0_7, zfv_0_8, zfv_0_9, zK_1, zfv_1_0, zfv_1_1, zfv_1_2, zfv_1_3, zfv_1_4, zfv_1_5, zfv_1_6, zK_2, zLn_2, zK_3, zLn_3, zK_4, zfv_4_0, zfv_4_1, zfv_4_2, zfv_4_3, zfv_4_4, zfv_4_5, zfv_4_6, zfv_4_7, zfv_4_8, zfv_4_9, zfv_4_10, zfv_4_11, zK_5, zLn_5, zK_6, zLn_6, zK_7, zLn_7, zK_8, zLn_8, zK_9, zLn_9, zK_10, zLn_10, zK_11, zLn_11, zK_12, zLn_12, zK_13, zLn_13, zK_14, zfv_14_0, zfv_14_1, zfv_14_2, zfv_14_3, zfv_14_4, zfv_14_5, zfv_14_6, zfv_14_7, zfv_14_8, zfv_14_9, zfv_14_10, zfv_14_11, zK_15, zLn_15, zK_16, zLn_16, zK_17, zLn_17, zK_18, zLn_18, zK_19, zLn_19, zK_20, zLn_20, zK_21, zLn_21, zK_22, zLn_22, zK_23, zLn_23, zK_24, zfv_24_0, zfv_24_1, zfv_24_2, zfv_24_3, zfv_24_4, zfv_24_5, zfv_24_6, zfv_24_7, zfv_24_8, zfv_24_9, zK_25, zLn_25, zK_26, zLn_26, zK_27, zLn_27, zK_28, zLn_28, zK_29, zLn_29, zK_30, zLn_30, zK_31, zfv_31_0, zfv_31_1, zfv_31_2, zfv_31_3, zfv_31_4, zfv_31_5, zfv_31_6, zfv_31_7, zfv_31_8, zfv_31_9, zK_32, zLn_32, zK_33, zLn_33, zK_34, zLn_34, zK_35, zLn_35, zK_36, zLn_36, zK_37, zLn_37, zK_38, zfv_38_0, zfv_38_1, zfv_38_2, zfv_38_3, zfv_38_4, zfv_38_5, zfv_38_6, zfv_38_7, zfv_38_8, zfv_38_9, zK_39, zLn_39, zK_40, zLn_40, zK_41, zLn_41, zK_42, zLn_42, zK_43, zLn_43, zK_44, zLn_44, zK_45, zLn_45, zK_46, zLn_46, zK_47, zfv_47_0, zfv_47_1, zfv_47_2, zfv_47_3, zfv_47_4, zfv_47_5, zfv_47_6, zK_48, zLn_48, zK_49, zLn_49, zK_50, zLn_50, zK_51, zLn_51, zK_52, zLn_52, zK_53, zLn_53, zK_54, zLn_54, zK_55, zLn_55, zK_56, zLn_56, zK_57, zLn_57, zK_58, zLn_58, zK_59, zLn_59, zK_60, zfv_60_0, zfv_60_1, zfv_60_2, zK_61, zLn_61, zK_62, zfv_62_0, zK_63, zLn_63, zK_64, zfv_64_0, zfv_64_1, zfv_64_2, zfv_64_3, zfv_64_4, zfv_64_5, zfv_64_6, zfv_64_7, zfv_64_8, zfv_64_9, zfv_64_10, zfv_64_11, zfv_64_12, zfv_64_13, zfv_64_14, zfv_64_15, zfv_64_16, zfv_64_17, zfv_64_18, zfv_64_19, zfv_64_20, zfv_64_21, zfv_64_22, zfv_64_23, zfv_64_24, zfv_64_25, zfv_64_26, zfv_64_27, zK_65, zLn_65, zK_66, zLn_66, zK_67, zLn_67, zK_68, zLn_68, zK_69, zLn_69, zK_70, zLn_70, zK_71, zLn_71, zK_72, zLn_72, zK_73, zLn_73, zK_74, zLn_74, zK_75, zLn_75, zK_76, zLn_76, zK_77, zLn_77, zK_78, zLn_78, zK_79, zLn_79, zK_80, zLn_80, zK_81, zLn_81, eD]
  exact fun h => absurd h (by decide)
end
