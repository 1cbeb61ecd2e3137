/-! ===== undo ===== -/
theorem er_in {l : List Nat} {j a : Nat} (hj : j ≤ l.length) : (l.insertIdx j a).eraseIdx j = l := by
  apply List.ext_getElem?
  intro i
  rw [List.getElem?_eraseIdx]
  by_cases h : i < j
  · rw [if_pos h, List.getElem?_insertIdx, if_pos h]
  · rw [if_neg h, List.getElem?_insertIdx, if_neg (by omega), if_neg (by omega)]
    rfl
theorem in_er {l : List Nat} {j a : Nat} (h : l[j]? = some a) : (l.eraseIdx j).insertIdx j a = l := by
  have hj : j < l.length := (List.getElem?_eq_some_iff.mp h).1
  apply List.ext_getElem?
  intro i
  rw [List.getElem?_insertIdx]
  by_cases q : i < j
  · rw [if_pos q, List.getElem?_eraseIdx, if_pos q]
  · rw [if_neg q]
    by_cases e : i = j
    · rw [if_pos e, if_pos (by rw [List.length_eraseIdx, if_pos hj]; omega), e, h]
    · rw [if_neg e, List.getElem?_eraseIdx, if_neg (by omega), show i - 1 + 1 = i by omega]
def wE (ν : aN) (l : List aD) : aN := (ν.1, nF ν, nM ν, nS ν, l)
def wLo (ν : aN) (x : Int32) : aN := ((nD ν, nW ν, x), nF ν, nM ν, nS ν, nE ν)
/-- what a deed did: from ν' to ν, lists of deeds apart -/
def Step (τ : aT) (ν' : aN) (e : aD) (ν : aN) : Prop :=
  (e.1 = 0 ∧ e.2.1 < tA τ ∧ nF ν' e.2.1 = 0 ∧ e.2.2.1 = τ.2 3 e.2.1 ∧ (nS ν' e.2.2.1).length < τ.2 0 e.2.2.1 ∧ e.2.2.2.2.2 = nL ν' ∧ wE ν [] = wE (nPin ν' e.2.1 e.2.2.1 (nS ν' e.2.2.1).length (τ.2 5 e.2.1)) []) ∨
  (e.1 = 1 ∧ (nS ν' e.2.2.1)[e.2.2.2.1]? = some e.2.1 ∧ e.2.2.2.2.1 = nM ν' e.2.1 ∧ e.2.2.2.2.2 = nL ν' ∧ wE ν [] = wE (nUnpin ν' e.2.2.1 e.2.2.2.1 e.2.1 3) []) ∨
  (e.1 = 2 ∧ (nS ν' e.2.2.1)[e.2.2.2.1]? = some e.2.1 ∧ e.2.2.2.2.1 = nM ν' e.2.1 ∧ e.2.2.2.2.2 = nL ν' ∧ wE ν [] = wE (nAdd (nUnpin ν' e.2.2.1 e.2.2.2.1 e.2.1 3) (nI (τ.2 6 e.2.1))) []) ∨
  (e.1 = 3 ∧ (nS ν' e.2.2.1)[e.2.2.2.1]? = some e.2.1 ∧ e.2.2.2.2.1 = nM ν' e.2.1 ∧ e.2.2.2.2.2 = nL ν' ∧ ∃ q, q < tP τ ∧ e.2.2.1 ≠ q ∧ (nS ν' q).length < τ.2 0 q ∧ wE ν [] = wE (nPin (nUnpin ν' e.2.2.1 e.2.2.2.1 e.2.1 3) e.2.1 q (nS ν' q).length (nM ν' e.2.1)) [])
theorem wE_eq {ν μ : aN} (h : wE ν [] = wE μ []) : ν = wE μ (nE ν) := by
  obtain ⟨a, b, c, d, e⟩ := ν
  obtain ⟨a', b', c', d', e'⟩ := μ
  unfold wE at h
  simp only [Prod.mk.injEq] at h
  obtain ⟨h1, h2, h3, h4, -⟩ := h
  unfold wE
  simp only [Prod.mk.injEq]
  exact ⟨h1, h2, h3, h4, trivial⟩
/-- the class's picture sees left of slips alone -/
theorem RNc.ml {b : Nat} {ν μ : aN} {σ : zSt} (h : RNc b ν σ) (h1 : μ.1 = ν.1) (h2 : nF μ = nF ν) (h3 : ∀ a, nF ν a = 1 → nM μ a = nM ν a) (h4 : nS μ = nS ν) (h5 : nE μ = nE ν) : RNc b μ σ := by
  obtain ⟨a, f, m, s, l⟩ := μ
  dsimp only [nF, nM, nS, nE] at h1 h2 h3 h4 h5
  subst h1; subst h2; subst h4; subst h5
  obtain ⟨r1, r2, r3, r4⟩ := h
  refine ⟨r1, fun a ha => ?_, r3, r4⟩
  obtain ⟨q1, q2, q3⟩ := r2 a ha
  refine ⟨q1, ?_, q3⟩
  rw [q2]
  show nI (if nF ν a = 1 then nM ν a else 0) = nI (if nF ν a = 1 then m a else 0)
  by_cases z : nF ν a = 1
  · rw [if_pos z, if_pos z, h3 a z]
  · rw [if_neg z, if_neg z]
set_option maxHeartbeats 4000000 in
/-- undoLatest, in words of what stands now and what the deed tells -/
theorem c_undoL (d : Nat) {τ : aT} {X Z : aN} {l : List aD} {e : aD} {σ : zSt} (hT : WfT τ) (hX : WfN τ X) (hl : l.length < 12) (ha : e.2.1 < 8) (hN : RNc 24 (wE X (l ++ [e])) σ)
    (hZ : (nF X e.2.1 ≠ 1 ∧ Z = wE X l) ∨ (∃ q i, (nS X q)[i]? = some e.2.1 ∧ Z = nUnpin (wE X l) q i e.2.1 0)) (hWZ : WfN τ (nLef Z e.2.1 0)) (hp : e.1 ≠ 0 → e.2.2.1 < 4 ∧ (nS Z e.2.2.1).length < 5 ∧ e.2.2.2.1 ≤ (nS Z e.2.2.1).length) :
    yC (d + 3) 28 [.ref 24] σ (fun r σ' => r = none ∧ RNc 24 (wLo (if e.1 = 0 then Z else nPin Z e.2.1 e.2.2.1 e.2.2.2.1 e.2.2.2.2.1) e.2.2.2.2.2) σ' ∧ xO 24 31 σ σ') := by
  obtain ⟨s, a, p, j, u, lo⟩ := e
  dsimp only at *
  obtain ⟨r1, r2, r3, r4⟩ := id hN
  have hrow := r4 l.length (s, a, p, j, u, lo) (by
    show (l ++ [(s, a, p, j, u, lo)])[l.length]? = _
    rw [List.getElem?_append_right (Nat.le_refl _), Nat.sub_self]
    rfl)
  obtain ⟨b0, b1, b2, b3, b4⟩ := hrow
  dsimp only at b0 b1 b2 b3 b4
  have hm : σ.1 24 8 = nI (l.length + 1) := by
    have := r1.2.2.2
    rw [this]
    show nI (l ++ [(s, a, p, j, u, lo)]).length = _
    rw [List.length_append]
    rfl
  have hF3 := hX.2.1 a
  have hfa : σ.1 25 a = nI (nF X a) := (r2 a ha).1
  have b0 : σ.1 30 (5 * l.length) = nI a := b0
  have b1 : σ.1 30 (5 * l.length + 1) = (if s = 0 then -1 else nI p) := b1
  have b2 : σ.1 30 (5 * l.length + 2) = (if s = 0 then 0 else nI j) := b2
  have b3 : σ.1 30 (5 * l.length + 3) = (if s = 0 then 0 else nI u) := b3
  have b4 : σ.1 30 (5 * l.length + 4) = lo := b4
  have hO1 : xO 24 31 σ (zwI σ 24 8 (nI l.length)) := (xO.rf σ).wI (by decide) (by decide)
  have hN1 : RNc 24 (wE X l) (zwI σ 24 8 (nI l.length)) := by
    refine ⟨?_, ?_, ?_, ?_⟩
    · simp only [wI1, ↓reduceIte, Nat.reduceAdd, Nat.reduceEqDiff]
      exact ⟨r1.1, r1.2.1, r1.2.2.1, by rw [pk_us]; rfl⟩
    · simp only [wI1, ↓reduceIte, Nat.reduceAdd, Nat.reduceEqDiff]
      exact r2
    · simp only [wI1, ↓reduceIte, Nat.reduceAdd, Nat.reduceEqDiff]
      exact r3
    · simp only [wI1, ↓reduceIte, Nat.reduceAdd, Nat.reduceEqDiff]
      intro k e hk
      have hk : l[k]? = some e := hk
      refine r4 k e ?_
      show (l ++ [(s, a, p, j, u, lo)])[k]? = some e
      rw [List.getElem?_append_left (List.getElem?_eq_some_iff.mp hk).1]
      exact hk
  refine C28 (Nat.le_of_ble_eq_true rfl) ?_
  simp only [lv_args, Value.category]
  -- the end, from 78
  have E : ∀ (Y : aN) (σ3 : zSt), RNc 24 Y σ3 → xO 24 31 σ σ3 → σ3.1 30 = σ.1 30 → Y28 (d + 2) (fun r σ' => r = none ∧ RNc 24 (wLo Y lo) σ' ∧ xO 24 31 σ σ') 78 [(0, .ref 24), (1, .int (nI (5 * l.length))), (2, .int (nI a)), (3, .int (if s = 0 then -1 else nI p))] [] σ3 := by
    intro Y σ3 hY hO3 h30
    rw [g28_78]
    simp only [g28_79, g28_80, g28_83, g28_84, g28_85, g28_86, g28_87, g28_90, zldI, zldJ, zldR, zlk, zs1, zc1, zs2, zc2, Value.category, zdup_i, zdup_r, zdup2_i, zdup2_l, zrcv, zrm, ↓reduceIte, Nat.reduceAdd, Nat.reduceEqDiff, Nat.reduceLeDiff, Nat.reduceMul, and_false, false_and, and_true, true_and, List.map_cons, List.map_nil, List.sum_cons, List.sum_nil, Option.toList_some, Option.toList_none, List.cons_append, List.nil_append, or_true, true_or, or_false, false_or, Nat.add_zero, Nat.zero_add, Nat.one_ne_zero, Nat.zero_ne_one, not_false_eq_true, not_true_eq_false, implies_true, forall_const, exists_eq_left, reduceCtorEq, false_implies, true_implies, wA1, wA2, wI1, wI2, wJ1, wJ2, wJ3, wR1, wR2, wR31, wR32, zK_0, zfv_0_0, zfv_0_1, zfv_0_2, zfv_0_3, zfv_0_4, zfv_0_5, zfv_0_6, zfv_0_7, zfv_0_8, zfv_0_9, zK_1, zfv_1_0, zfv_1_1, zfv_1_2, zfv_1_3, zfv_1_4, zfv_1_5, zfv_1_6, zK_2, zLn_2, zK_3, zLn_3, zK_4, zfv_4_0, zfv_4_1, zfv_4_2, zfv_4_3, zfv_4_4, zfv_4_5, zfv_4_6, zfv_4_7, zfv_4_8, zfv_4_9, zfv_4_10, zfv_4_11, zK_5, zLn_5, zK_6, zLn_6, zK_7, zLn_7, zK_8, zLn_8, zK_9, zLn_9, zK_10, zLn_10, zK_11, zLn_11, zK_12, zLn_12, zK_13, zLn_13, zK_14, zfv_14_0, zfv_14_1, zfv_14_2, zfv_14_3, zfv_14_4, zfv_14_5, zfv_14_6, zfv_14_7, zfv_14_8, zfv_14_9, zfv_14_10, zfv_14_11, zK_15, zLn_15, zK_16, zLn_16, zK_17, zLn_17, zK_18, zLn_18, zK_19, zLn_19, zK_20, zLn_20, zK_21, zLn_21, zK_22, zLn_22, zK_23, zLn_23, zK_24, zfv_24_0, zfv_24_1, zfv_24_2, zfv_24_3, zfv_24_4, zfv_24_5, zfv_24_6, zfv_24_7, zfv_24_8, zfv_24_9, zK_25, zLn_25, zK_26, zLn_26, zK_27, zLn_27, zK_28, zLn_28, zK_29, zLn_29, zK_30, zLn_30, zK_31, zfv_31_0, zfv_31_1, zfv_31_2, zfv_31_3, zfv_31_4, zfv_31_5, zfv_31_6, zfv_31_7, zfv_31_8, zfv_31_9, zK_32, zLn_32, zK_33, zLn_33, zK_34, zLn_34, zK_35, zLn_35, zK_36, zLn_36, zK_37, zLn_37, zK_38, zfv_38_0, zfv_38_1, zfv_38_2, zfv_38_3, zfv_38_4, zfv_38_5, zfv_38_6, zfv_38_7, zfv_38_8, zfv_38_9, zK_39, zLn_39, zK_40, zLn_40, zK_41, zLn_41, zK_42, zLn_42, zK_43, zLn_43, zK_44, zLn_44, zK_45, zLn_45, zK_46, zLn_46, zK_47, zfv_47_0, zfv_47_1, zfv_47_2, zfv_47_3, zfv_47_4, zfv_47_5, zfv_47_6, zK_48, zLn_48, zK_49, zLn_49, zK_50, zLn_50, zK_51, zLn_51, zK_52, zLn_52, zK_53, zLn_53, zK_54, zLn_54, zK_55, zLn_55, zK_56, zLn_56, zK_57, zLn_57, zK_58, zLn_58, zK_59, zLn_59, zK_60, zfv_60_0, zfv_60_1, zfv_60_2, zK_61, zLn_61, zK_62, zfv_62_0, zK_63, zLn_63, zK_64, zfv_64_0, zfv_64_1, zfv_64_2, zfv_64_3, zfv_64_4, zfv_64_5, zfv_64_6, zfv_64_7, zfv_64_8, zfv_64_9, zfv_64_10, zfv_64_11, zfv_64_12, zfv_64_13, zfv_64_14, zfv_64_15, zfv_64_16, zfv_64_17, zfv_64_18, zfv_64_19, zfv_64_20, zfv_64_21, zfv_64_22, zfv_64_23, zfv_64_24, zfv_64_25, zfv_64_26, zfv_64_27, zK_65, zLn_65, zK_66, zLn_66, zK_67, zLn_67, zK_68, zLn_68, zK_69, zLn_69, zK_70, zLn_70, zK_71, zLn_71, zK_72, zLn_72, zK_73, zLn_73, zK_74, zLn_74, zK_75, zLn_75, zK_76, zLn_76, zK_77, zLn_77, zK_78, zLn_78, zK_79, zLn_79, zK_80, zLn_80, zK_81, zLn_81, xa4, nI_clamp (show 5 * l.length + 4 < 2 ^ 31 by omega), h30, b4]
    refine ⟨vp_in_nI (by omega) (by decide), ⟨?_, ?_, ?_, ?_⟩, hO3.wI (by decide) (by decide)⟩
    · simp only [wI1, ↓reduceIte, Nat.reduceAdd, Nat.reduceEqDiff, upd]
      exact ⟨hY.1.1, hY.1.2.1, rfl, hY.1.2.2.2⟩
    · simp only [wI1, ↓reduceIte, Nat.reduceAdd, Nat.reduceEqDiff]
      exact hY.2.1
    · simp only [wI1, ↓reduceIte, Nat.reduceAdd, Nat.reduceEqDiff]
      exact hY.2.2.1
    · simp only [wI1, ↓reduceIte, Nat.reduceAdd, Nat.reduceEqDiff]
      exact hY.2.2.2
  -- from 51
  have G : ∀ σ2 : zSt, RNc 24 Z σ2 → xO 24 31 σ σ2 → σ2.1 30 = σ.1 30 → nF Z a ≠ 1 → Y28 (d + 2) (fun r σ' => r = none ∧ RNc 24 (wLo (if s = 0 then Z else nPin Z a p j u) lo) σ' ∧ xO 24 31 σ σ') 51 [(0, .ref 24), (1, .int (nI (5 * l.length))), (2, .int (nI a)), (3, .int (if s = 0 then -1 else nI p))] [] σ2 := by
    intro σ2 h2 hO2 h30 hfZ
    by_cases hs : s = 0
    · have e := E Z σ2 h2 hO2 h30
      simp only [if_pos hs] at e ⊢
      rw [g28_51]
      simp only [g28_52, g28_53, g28_56, g28_57, g28_58, g28_59, g28_60, g28_63, g28_64, g28_65, g28_66, g28_67, g28_68, g28_71, g28_72, g28_73, g28_74, g28_75, zldI, zldJ, zldR, zlk, zs1, zc1, zs2, zc2, Value.category, zdup_i, zdup_r, zdup2_i, zdup2_l, zrcv, zrm, ↓reduceIte, Nat.reduceAdd, Nat.reduceEqDiff, Nat.reduceLeDiff, Nat.reduceMul, and_false, false_and, and_true, true_and, List.map_cons, List.map_nil, List.sum_cons, List.sum_nil, Option.toList_some, Option.toList_none, List.cons_append, List.nil_append, or_true, true_or, or_false, false_or, Nat.add_zero, Nat.zero_add, Nat.one_ne_zero, Nat.zero_ne_one, not_false_eq_true, not_true_eq_false, implies_true, forall_const, exists_eq_left, reduceCtorEq, false_implies, true_implies, wA1, wA2, wI1, wI2, wJ1, wJ2, wJ3, wR1, wR2, wR31, wR32, zK_0, zfv_0_0, zfv_0_1, zfv_0_2, zfv_0_3, zfv_0_4, zfv_0_5, zfv_0_6, zfv_0_7, zfv_0_8, zfv_0_9, zK_1, zfv_1_0, zfv_1_1, zfv_1_2, zfv_1_3, zfv_1_4, zfv_1_5, zfv_1_6, zK_2, zLn_2, zK_3, zLn_3, zK_4, zfv_4_0, zfv_4_1, zfv_4_2, zfv_4_3, zfv_4_4, zfv_4_5, zfv_4_6, zfv_4_7, zfv_4_8, zfv_4_9, zfv_4_10, zfv_4_11, zK_5, zLn_5, zK_6, zLn_6, zK_7, zLn_7, zK_8, zLn_8, zK_9, zLn_9, zK_10, zLn_10, zK_11, zLn_11, zK_12, zLn_12, zK_13, zLn_13, zK_14, zfv_14_0, zfv_14_1, zfv_14_2, zfv_14_3, zfv_14_4, zfv_14_5, zfv_14_6, zfv_14_7, zfv_14_8, zfv_14_9, zfv_14_10, zfv_14_11, zK_15, zLn_15, zK_16, zLn_16, zK_17, zLn_17, zK_18, zLn_18, zK_19, zLn_19, zK_20, zLn_20, zK_21, zLn_21, zK_22, zLn_22, zK_23, zLn_23, zK_24, zfv_24_0, zfv_24_1, zfv_24_2, zfv_24_3, zfv_24_4, zfv_24_5, zfv_24_6, zfv_24_7, zfv_24_8, zfv_24_9, zK_25, zLn_25, zK_26, zLn_26, zK_27, zLn_27, zK_28, zLn_28, zK_29, zLn_29, zK_30, zLn_30, zK_31, zfv_31_0, zfv_31_1, zfv_31_2, zfv_31_3, zfv_31_4, zfv_31_5, zfv_31_6, zfv_31_7, zfv_31_8, zfv_31_9, zK_32, zLn_32, zK_33, zLn_33, zK_34, zLn_34, zK_35, zLn_35, zK_36, zLn_36, zK_37, zLn_37, zK_38, zfv_38_0, zfv_38_1, zfv_38_2, zfv_38_3, zfv_38_4, zfv_38_5, zfv_38_6, zfv_38_7, zfv_38_8, zfv_38_9, zK_39, zLn_39, zK_40, zLn_40, zK_41, zLn_41, zK_42, zLn_42, zK_43, zLn_43, zK_44, zLn_44, zK_45, zLn_45, zK_46, zLn_46, zK_47, zfv_47_0, zfv_47_1, zfv_47_2, zfv_47_3, zfv_47_4, zfv_47_5, zfv_47_6, zK_48, zLn_48, zK_49, zLn_49, zK_50, zLn_50, zK_51, zLn_51, zK_52, zLn_52, zK_53, zLn_53, zK_54, zLn_54, zK_55, zLn_55, zK_56, zLn_56, zK_57, zLn_57, zK_58, zLn_58, zK_59, zLn_59, zK_60, zfv_60_0, zfv_60_1, zfv_60_2, zK_61, zLn_61, zK_62, zfv_62_0, zK_63, zLn_63, zK_64, zfv_64_0, zfv_64_1, zfv_64_2, zfv_64_3, zfv_64_4, zfv_64_5, zfv_64_6, zfv_64_7, zfv_64_8, zfv_64_9, zfv_64_10, zfv_64_11, zfv_64_12, zfv_64_13, zfv_64_14, zfv_64_15, zfv_64_16, zfv_64_17, zfv_64_18, zfv_64_19, zfv_64_20, zfv_64_21, zfv_64_22, zfv_64_23, zfv_64_24, zfv_64_25, zfv_64_26, zfv_64_27, zK_65, zLn_65, zK_66, zLn_66, zK_67, zLn_67, zK_68, zLn_68, zK_69, zLn_69, zK_70, zLn_70, zK_71, zLn_71, zK_72, zLn_72, zK_73, zLn_73, zK_74, zLn_74, zK_75, zLn_75, zK_76, zLn_76, zK_77, zLn_77, zK_78, zLn_78, zK_79, zLn_79, zK_80, zLn_80, zK_81, zLn_81]
      exact e
    · obtain ⟨hp4, hl5, hjl⟩ := hp hs
      have hpm : ¬ nI p = -1 := fun z => by
        have := congrArg Int32.toInt z
        rw [nI_toInt (by omega)] at this
        have e9 : (-1 : Int32).toInt = -1 := by decide
        omega
      have e2 : σ2.1 30 (5 * l.length + 2) = nI j := by rw [h30, b2, if_neg hs]
      have e3 : σ2.1 30 (5 * l.length + 3) = nI u := by rw [h30, b3, if_neg hs]
      have e := E (nPin Z a p j u)
      simp only [if_neg hs] at e ⊢
      rw [g28_51]
      simp only [g28_52, g28_53, g28_56, g28_57, g28_58, g28_59, g28_60, g28_63, g28_64, g28_65, g28_66, g28_67, g28_68, g28_71, g28_72, g28_73, g28_74, g28_75, zldI, zldJ, zldR, zlk, zs1, zc1, zs2, zc2, Value.category, zdup_i, zdup_r, zdup2_i, zdup2_l, zrcv, zrm, ↓reduceIte, Nat.reduceAdd, Nat.reduceEqDiff, Nat.reduceLeDiff, Nat.reduceMul, and_false, false_and, and_true, true_and, List.map_cons, List.map_nil, List.sum_cons, List.sum_nil, Option.toList_some, Option.toList_none, List.cons_append, List.nil_append, or_true, true_or, or_false, false_or, Nat.add_zero, Nat.zero_add, Nat.one_ne_zero, Nat.zero_ne_one, not_false_eq_true, not_true_eq_false, implies_true, forall_const, exists_eq_left, reduceCtorEq, false_implies, true_implies, wA1, wA2, wI1, wI2, wJ1, wJ2, wJ3, wR1, wR2, wR31, wR32, zK_0, zfv_0_0, zfv_0_1, zfv_0_2, zfv_0_3, zfv_0_4, zfv_0_5, zfv_0_6, zfv_0_7, zfv_0_8, zfv_0_9, zK_1, zfv_1_0, zfv_1_1, zfv_1_2, zfv_1_3, zfv_1_4, zfv_1_5, zfv_1_6, zK_2, zLn_2, zK_3, zLn_3, zK_4, zfv_4_0, zfv_4_1, zfv_4_2, zfv_4_3, zfv_4_4, zfv_4_5, zfv_4_6, zfv_4_7, zfv_4_8, zfv_4_9, zfv_4_10, zfv_4_11, zK_5, zLn_5, zK_6, zLn_6, zK_7, zLn_7, zK_8, zLn_8, zK_9, zLn_9, zK_10, zLn_10, zK_11, zLn_11, zK_12, zLn_12, zK_13, zLn_13, zK_14, zfv_14_0, zfv_14_1, zfv_14_2, zfv_14_3, zfv_14_4, zfv_14_5, zfv_14_6, zfv_14_7, zfv_14_8, zfv_14_9, zfv_14_10, zfv_14_11, zK_15, zLn_15, zK_16, zLn_16, zK_17, zLn_17, zK_18, zLn_18, zK_19, zLn_19, zK_20, zLn_20, zK_21, zLn_21, zK_22, zLn_22, zK_23, zLn_23, zK_24, zfv_24_0, zfv_24_1, zfv_24_2, zfv_24_3, zfv_24_4, zfv_24_5, zfv_24_6, zfv_24_7, zfv_24_8, zfv_24_9, zK_25, zLn_25, zK_26, zLn_26, zK_27, zLn_27, zK_28, zLn_28, zK_29, zLn_29, zK_30, zLn_30, zK_31, zfv_31_0, zfv_31_1, zfv_31_2, zfv_31_3, zfv_31_4, zfv_31_5, zfv_31_6, zfv_31_7, zfv_31_8, zfv_31_9, zK_32, zLn_32, zK_33, zLn_33, zK_34, zLn_34, zK_35, zLn_35, zK_36, zLn_36, zK_37, zLn_37, zK_38, zfv_38_0, zfv_38_1, zfv_38_2, zfv_38_3, zfv_38_4, zfv_38_5, zfv_38_6, zfv_38_7, zfv_38_8, zfv_38_9, zK_39, zLn_39, zK_40, zLn_40, zK_41, zLn_41, zK_42, zLn_42, zK_43, zLn_43, zK_44, zLn_44, zK_45, zLn_45, zK_46, zLn_46, zK_47, zfv_47_0, zfv_47_1, zfv_47_2, zfv_47_3, zfv_47_4, zfv_47_5, zfv_47_6, zK_48, zLn_48, zK_49, zLn_49, zK_50, zLn_50, zK_51, zLn_51, zK_52, zLn_52, zK_53, zLn_53, zK_54, zLn_54, zK_55, zLn_55, zK_56, zLn_56, zK_57, zLn_57, zK_58, zLn_58, zK_59, zLn_59, zK_60, zfv_60_0, zfv_60_1, zfv_60_2, zK_61, zLn_61, zK_62, zfv_62_0, zK_63, zLn_63, zK_64, zfv_64_0, zfv_64_1, zfv_64_2, zfv_64_3, zfv_64_4, zfv_64_5, zfv_64_6, zfv_64_7, zfv_64_8, zfv_64_9, zfv_64_10, zfv_64_11, zfv_64_12, zfv_64_13, zfv_64_14, zfv_64_15, zfv_64_16, zfv_64_17, zfv_64_18, zfv_64_19, zfv_64_20, zfv_64_21, zfv_64_22, zfv_64_23, zfv_64_24, zfv_64_25, zfv_64_26, zfv_64_27, zK_65, zLn_65, zK_66, zLn_66, zK_67, zLn_67, zK_68, zLn_68, zK_69, zLn_69, zK_70, zLn_70, zK_71, zLn_71, zK_72, zLn_72, zK_73, zLn_73, zK_74, zLn_74, zK_75, zLn_75, zK_76, zLn_76, zK_77, zLn_77, zK_78, zLn_78, zK_79, zLn_79, zK_80, zLn_80, zK_81, zLn_81, xa2, xa3, nI_clamp (show 5 * l.length + 2 < 2 ^ 31 by omega), nI_clamp (show 5 * l.length + 3 < 2 ^ 31 by omega), e2, e3, hpm]
      refine ⟨vp_in_nI (by omega) (by decide), vp_in_nI (by omega) (by decide), ?_⟩
      have h2' : RNc 24 (nLef Z a 0) σ2 := h2.ml rfl rfl (fun x hx => by
        show (if x = a then 0 else nM Z x) = nM Z x
        rw [if_neg (fun q : x = a => hfZ (q ▸ hx))]) rfl rfl
      refine ycall (c_pin (u := u) _ hT hWZ h2' ha hp4 hfZ hl5 hjl) ?_
      rintro _ σ3 ⟨rfl, h3, hO3, h303⟩
      simp only [Option.toList_none, List.nil_append]
      have h3' : RNc 24 (nPin Z a p j u) σ3 := h3.ml rfl rfl (fun x _ => by
        show (if x = a then u else nM Z x) = (if x = a then u else if x = a then 0 else nM Z x)
        by_cases q : x = a
        · rw [if_pos q, if_pos q]
        · rw [if_neg q, if_neg q, if_neg q]) rfl rfl
      exact e σ3 h3' (hO2.trans hO3) (h303.trans h30)
  rw [g28_0]
  simp only [g28_1, g28_2, g28_5, g28_6, g28_7, g28_10, g28_11, g28_14, g28_15, g28_16, g28_17, g28_18, g28_21, g28_22, g28_23, g28_24, g28_25, g28_26, g28_27, g28_30, g28_31, g28_32, g28_33, g28_34, g28_35, g28_36, g28_39, g28_40, g28_41, g28_42, g28_45, g28_46, g28_47, g28_48, zldI, zldJ, zldR, zlk, zs1, zc1, zs2, zc2, Value.category, zdup_i, zdup_r, zdup2_i, zdup2_l, zrcv, zrm, ↓reduceIte, Nat.reduceAdd, Nat.reduceEqDiff, Nat.reduceLeDiff, Nat.reduceMul, and_false, false_and, and_true, true_and, List.map_cons, List.map_nil, List.sum_cons, List.sum_nil, Option.toList_some, Option.toList_none, List.cons_append, List.nil_append, or_true, true_or, or_false, false_or, Nat.add_zero, Nat.zero_add, Nat.one_ne_zero, Nat.zero_ne_one, not_false_eq_true, not_true_eq_false, implies_true, forall_const, exists_eq_left, reduceCtorEq, false_implies, true_implies, wA1, wA2, wI1, wI2, wJ1, wJ2, wJ3, wR1, wR2, wR31, wR32, zK_0, zfv_0_0, zfv_0_1, zfv_0_2, zfv_0_3, zfv_0_4, zfv_0_5, zfv_0_6, zfv_0_7, zfv_0_8, zfv_0_9, zK_1, zfv_1_0, zfv_1_1, zfv_1_2, zfv_1_3, zfv_1_4, zfv_1_5, zfv_1_6, zK_2, zLn_2, zK_3, zLn_3, zK_4, zfv_4_0, zfv_4_1, zfv_4_2, zfv_4_3, zfv_4_4, zfv_4_5, zfv_4_6, zfv_4_7, zfv_4_8, zfv_4_9, zfv_4_10, zfv_4_11, zK_5, zLn_5, zK_6, zLn_6, zK_7, zLn_7, zK_8, zLn_8, zK_9, zLn_9, zK_10, zLn_10, zK_11, zLn_11, zK_12, zLn_12, zK_13, zLn_13, zK_14, zfv_14_0, zfv_14_1, zfv_14_2, zfv_14_3, zfv_14_4, zfv_14_5, zfv_14_6, zfv_14_7, zfv_14_8, zfv_14_9, zfv_14_10, zfv_14_11, zK_15, zLn_15, zK_16, zLn_16, zK_17, zLn_17, zK_18, zLn_18, zK_19, zLn_19, zK_20, zLn_20, zK_21, zLn_21, zK_22, zLn_22, zK_23, zLn_23, zK_24, zfv_24_0, zfv_24_1, zfv_24_2, zfv_24_3, zfv_24_4, zfv_24_5, zfv_24_6, zfv_24_7, zfv_24_8, zfv_24_9, zK_25, zLn_25, zK_26, zLn_26, zK_27, zLn_27, zK_28, zLn_28, zK_29, zLn_29, zK_30, zLn_30, zK_31, zfv_31_0, zfv_31_1, zfv_31_2, zfv_31_3, zfv_31_4, zfv_31_5, zfv_31_6, zfv_31_7, zfv_31_8, zfv_31_9, zK_32, zLn_32, zK_33, zLn_33, zK_34, zLn_34, zK_35, zLn_35, zK_36, zLn_36, zK_37, zLn_37, zK_38, zfv_38_0, zfv_38_1, zfv_38_2, zfv_38_3, zfv_38_4, zfv_38_5, zfv_38_6, zfv_38_7, zfv_38_8, zfv_38_9, zK_39, zLn_39, zK_40, zLn_40, zK_41, zLn_41, zK_42, zLn_42, zK_43, zLn_43, zK_44, zLn_44, zK_45, zLn_45, zK_46, zLn_46, zK_47, zfv_47_0, zfv_47_1, zfv_47_2, zfv_47_3, zfv_47_4, zfv_47_5, zfv_47_6, zK_48, zLn_48, zK_49, zLn_49, zK_50, zLn_50, zK_51, zLn_51, zK_52, zLn_52, zK_53, zLn_53, zK_54, zLn_54, zK_55, zLn_55, zK_56, zLn_56, zK_57, zLn_57, zK_58, zLn_58, zK_59, zLn_59, zK_60, zfv_60_0, zfv_60_1, zfv_60_2, zK_61, zLn_61, zK_62, zfv_62_0, zK_63, zLn_63, zK_64, zfv_64_0, zfv_64_1, zfv_64_2, zfv_64_3, zfv_64_4, zfv_64_5, zfv_64_6, zfv_64_7, zfv_64_8, zfv_64_9, zfv_64_10, zfv_64_11, zfv_64_12, zfv_64_13, zfv_64_14, zfv_64_15, zfv_64_16, zfv_64_17, zfv_64_18, zfv_64_19, zfv_64_20, zfv_64_21, zfv_64_22, zfv_64_23, zfv_64_24, zfv_64_25, zfv_64_26, zfv_64_27, zK_65, zLn_65, zK_66, zLn_66, zK_67, zLn_67, zK_68, zLn_68, zK_69, zLn_69, zK_70, zLn_70, zK_71, zLn_71, zK_72, zLn_72, zK_73, zLn_73, zK_74, zLn_74, zK_75, zLn_75, zK_76, zLn_76, zK_77, zLn_77, zK_78, zLn_78, zK_79, zLn_79, zK_80, zLn_80, zK_81, zLn_81, hm, nI_pred, x5, Int32.add_zero, pk_us, nI_1, nI_clamp (show 5 * l.length < 2 ^ 31 by omega), nI_clamp (show 5 * l.length + 1 < 2 ^ 31 by omega), b0, b1, nI_clamp (show a < 2 ^ 31 by omega), hfa]
  refine ⟨vp_in_nI (by omega) (by decide), vp_in_nI (by omega) (by decide), vp_in_nI (by omega) (by decide), fun z => ?_, fun z => ?_⟩
  · rcases hZ with ⟨h1, rfl⟩ | ⟨q, i, h1, rfl⟩
    · exact G _ hN1 hO1 rfl h1
    · exact absurd (show nI (nF X a) = 1 by rw [(hX.2.2.1 a).mpr ⟨q, List.mem_of_getElem? h1⟩]; rfl) z
  · have z1 : nF X a = 1 := (nI_eq (b := 1) (by omega) (by decide)).mp z
    rcases hZ with ⟨h1, rfl⟩ | ⟨q, i, h1, rfl⟩
    · exact absurd z1 h1
    · refine ycall (c_unpin (ν := wE X l) (f := 0) _ hT hX hN1 h1 (by decide)) ?_
      rintro _ σ2 ⟨rfl, h2, hO2, h30⟩
      simp only [Option.toList_none, List.nil_append]
      exact G σ2 h2 (hO1.trans hO2) h30 (by rw [nF_un, if_pos rfl]; decide)
theorem Wf_lef0 {τ : aT} {ν : aN} {a : Nat} (h : WfN τ ν) (hf : nF ν a ≠ 1) : WfN τ (nLef ν a 0) := by
  obtain ⟨w1, w2, w3, w4, w5, w6, w7, w8⟩ := h
  refine ⟨w1, w2, w3, w4, w5, w6, fun x hx => ?_, fun x hx => ?_⟩
  · show (if x = a then 0 else nM ν x) = 0
    split
    · rfl
    · exact w7 x hx
  · have : x ≠ a := fun z => hf (z ▸ hx)
    show 1 ≤ (if x = a then 0 else nM ν x) ∧ (if x = a then 0 else nM ν x) ≤ 9
    rw [if_neg this]
    exact w8 x hx
theorem Wf_fat {τ : aT} {ν : aN} {a f : Nat} (h : WfN τ ν) (hf : nF ν a ≠ 1) (hm : nM ν a = 0) (h1 : f ≠ 1) (h3 : f ≤ 3) : WfN τ (nFat ν a f) := by
  obtain ⟨w1, w2, w3, w4, w5, w6, w7, w8⟩ := h
  refine ⟨w1, fun x => ?_, fun x => ?_, w4, w5, w6, fun x hx => ?_, fun x hx => ?_⟩
  · show (if x = a then f else nF ν x) ≤ 3
    split
    · exact h3
    · exact w2 x
  · show (if x = a then f else nF ν x) = 1 ↔ _
    by_cases e : x = a
    · rw [if_pos e]
      exact ⟨fun z => absurd z h1, fun z => absurd ((w3 x).mpr z) (e ▸ hf)⟩
    · rw [if_neg e]
      exact w3 x
  · have hx : (if x = a then f else nF ν x) = 0 := hx
    by_cases e : x = a
    · rw [e]; exact hm
    · rw [if_neg e] at hx
      exact w7 x hx
  · have hx : (if x = a then f else nF ν x) = 1 := hx
    by_cases e : x = a
    · rw [if_pos e] at hx
      exact absurd hx h1
    · rw [if_neg e] at hx
      exact w8 x hx
theorem Wf_unpin0 {τ : aT} {ν : aN} {q i a : Nat} (h : WfN τ ν) (hi : (nS ν q)[i]? = some a) : WfN τ (nLef (nUnpin ν q i a 0) a 0) := by
  have h1 := Wf_unpin (f := 3) h hi (by decide) (by decide) (fun z => by cases z)
  have hf3 : nF (nUnpin ν q i a 3) a ≠ 1 := by rw [nF_un, if_pos rfl]; decide
  have h2 := Wf_lef0 h1 hf3
  have h3 := Wf_fat (f := 0) h2 hf3 (if_pos rfl) (by decide) (by decide)
  have e : nFat (nLef (nUnpin ν q i a 3) a 0) a 0 = nLef (nUnpin ν q i a 0) a 0 := by
    refine Prod.ext rfl (Prod.ext (funext fun x => ?_) rfl)
    show (if x = a then 0 else if x = a then 3 else nF ν x) = if x = a then 0 else nF ν x
    by_cases e : x = a
    · rw [if_pos e, if_pos e]
    · rw [if_neg e, if_neg e, if_neg e]
  rw [← e]
  exact h3
theorem wLo_self (ν : aN) : wLo ν (nL ν) = ν := rfl
theorem nS_pp {l l2 : Nat → List Nat} (h : ∀ q, l q = l2 q) : l = l2 := funext h
set_option maxHeartbeats 4000000 in
theorem c_undo_ok (d : Nat) {τ : aT} {ν ν' : aN} {l : List aD} {e : aD} {σ : zSt} (hT : WfT τ) (hW : WfN τ ν) (hW' : WfN τ ν') (hl : nE ν = l ++ [e]) (hl12 : l.length < 12) (hS : Step τ ν' e ν) (hN : RNc 24 ν σ) :
    yC (d + 3) 28 [.ref 24] σ (fun r σ' => r = none ∧ RNc 24 (wE ν' l) σ' ∧ xO 24 31 σ σ') := by
  have hA8 : tA τ ≤ 8 := hT.2.1
  have hP4 : tP τ ≤ 4 := hT.1
  obtain ⟨w1, w2, w3, w4, w5, w6, w7, w8⟩ := id hW'
  rcases hS with ⟨h0, h1, h2, h3, h4, h5, h6⟩ | ⟨h0, h1, h2, h3, h4⟩ | ⟨h0, h1, h2, h3, h4⟩ | ⟨h0, h1, h2, h3, q, hq1, hq2, hq3, h4⟩
  · -- a promise
    obtain ⟨s, a, p, j, u, lo⟩ := e
    dsimp only at *
    subst h0
    have hν := wE_eq h6
    rw [hl] at hν
    subst hν
    have hpP : p < tP τ := by rw [h3]; exact (hT.2.2.2.2.1 a h1).1
    have hmem : (nS (nPin ν' a p (nS ν' p).length (τ.2 5 a)) p)[(nS ν' p).length]? = some a := by
      rw [nS_pi, if_pos rfl, List.getElem?_insertIdx, if_neg (Nat.lt_irrefl _), if_pos rfl, if_pos (Nat.le_refl _)]
    have hZeq : ∀ x, nS (nUnpin (wE (nPin ν' a p (nS ν' p).length (τ.2 5 a)) l) p (nS ν' p).length a 0) x = nS ν' x := by
      intro x
      show (if x = p then (if p = p then (nS ν' p).insertIdx (nS ν' p).length a else nS ν' p).eraseIdx (nS ν' p).length else (if x = p then (nS ν' p).insertIdx (nS ν' p).length a else nS ν' x)) = nS ν' x
      by_cases e : x = p
      · rw [if_pos e, if_pos rfl, er_in (Nat.le_refl _), e]
      · rw [if_neg e, if_neg e]
    have hFeq : ∀ x, nF (nUnpin (wE (nPin ν' a p (nS ν' p).length (τ.2 5 a)) l) p (nS ν' p).length a 0) x = nF ν' x := by
      intro x
      show (if x = a then 0 else if x = a then 1 else nF ν' x) = nF ν' x
      by_cases e : x = a
      · rw [if_pos e, e, h2]
      · rw [if_neg e, if_neg e]
    have hLeq : ∀ x, nM (nLef (nUnpin (wE (nPin ν' a p (nS ν' p).length (τ.2 5 a)) l) p (nS ν' p).length a 0) a 0) x = nM ν' x := by
      intro x
      show (if x = a then 0 else if x = a then τ.2 5 a else nM ν' x) = nM ν' x
      by_cases e : x = a
      · rw [if_pos e, e, w7 a h2]
      · rw [if_neg e, if_neg e]
    have hWL : WfN τ (nLef (nUnpin (wE (nPin ν' a p (nS ν' p).length (τ.2 5 a)) l) p (nS ν' p).length a 0) a 0) := by
      have e1 : nLef (nUnpin (wE (nPin ν' a p (nS ν' p).length (τ.2 5 a)) l) p (nS ν' p).length a 0) a 0 = wE ν' l := by
        refine Prod.ext rfl (Prod.ext (funext hFeq) (Prod.ext (funext hLeq) (Prod.ext (funext hZeq) rfl)))
      rw [e1]
      exact hW'
    refine (c_undoL (e := (0, a, p, j, u, lo)) d hT hW hl12 (show a < 8 by omega) hN (Or.inr ⟨p, (nS ν' p).length, hmem, rfl⟩) hWL (fun z => absurd rfl z)).mono ?_
    rintro r σ' ⟨rfl, h7, h8⟩
    refine ⟨rfl, ?_, h8⟩
    rw [if_pos rfl] at h7
    refine h7.ml ?_ (funext fun x => (hFeq x).symm) (fun x hx => ?_) (funext fun x => (hZeq x).symm) rfl
    · show ν'.1 = (ν'.1.1, ν'.1.2.1, lo)
      rw [h5]
    · have hx2 : nF ν' x = 1 := (hFeq x).symm.trans hx
      show nM ν' x = (if x = a then τ.2 5 a else nM ν' x)
      rw [if_neg (fun q => by rw [q, h2] at hx2; cases hx2)]
  · obtain ⟨s, a, p, j, u, lo⟩ := e
    dsimp only at *
    subst h0
    have hν := wE_eq h4
    rw [hl] at hν
    subst hν
    have hm := List.mem_of_getElem? h1
    have hpP : p < tP τ := w4 p (List.ne_nil_of_mem hm)
    have haA := (w5 p).2.2 a hm
    have hjl : j < (nS ν' p).length := (List.getElem?_eq_some_iff.mp h1).1
    have hl5 := xl5 hT hW' p
    have hSp : nS (wE (nUnpin ν' p j a 3) l) p = (nS ν' p).eraseIdx j := if_pos rfl
    refine (c_undoL (e := (1, a, p, j, u, lo)) d hT hW hl12 (show a < 8 by omega) hN (Or.inl ⟨(by show (if a = a then 3 else nF ν' a) ≠ 1; rw [if_pos rfl]; decide), rfl⟩) (Wf_lef0 hW (by show (if a = a then 3 else nF ν' a) ≠ 1; rw [if_pos rfl]; decide)) (fun _ => ⟨(show p < 4 by omega), by show (nS (wE (nUnpin ν' p j a 3) l) p).length < 5; rw [hSp, List.length_eraseIdx, if_pos hjl]; omega, by show j ≤ (nS (wE (nUnpin ν' p j a 3) l) p).length; rw [hSp, List.length_eraseIdx, if_pos hjl]; omega⟩)).mono ?_
    rintro r σ' ⟨rfl, h7, h8⟩
    refine ⟨rfl, ?_, h8⟩
    rw [if_neg (Nat.succ_ne_zero _)] at h7
    refine h7.ml ?_ (funext fun x => ?_) (fun x hx => ?_) (funext fun x => ?_) rfl
    · show ν'.1 = (ν'.1.1, ν'.1.2.1, lo)
      rw [h3]
    · show nF ν' x = (if x = a then 1 else if x = a then 3 else nF ν' x)
      by_cases e : x = a
      · rw [if_pos e, e]
        exact (w3 a).mpr ⟨p, hm⟩
      · rw [if_neg e, if_neg e]
    · show nM ν' x = (if x = a then u else nM ν' x)
      by_cases e : x = a
      · rw [if_pos e, e, h2]
      · rw [if_neg e]
    · show nS ν' x = (if x = p then (if p = p then (nS ν' p).eraseIdx j else nS ν' p).insertIdx j a else (if x = p then (nS ν' p).eraseIdx j else nS ν' x))
      by_cases e : x = p
      · rw [if_pos e, if_pos rfl, in_er h1, e]
      · rw [if_neg e, if_neg e]
  · obtain ⟨s, a, p, j, u, lo⟩ := e
    dsimp only at *
    subst h0
    have hν := wE_eq h4
    rw [hl] at hν
    subst hν
    have hm := List.mem_of_getElem? h1
    have hpP : p < tP τ := w4 p (List.ne_nil_of_mem hm)
    have haA := (w5 p).2.2 a hm
    have hjl : j < (nS ν' p).length := (List.getElem?_eq_some_iff.mp h1).1
    have hl5 := xl5 hT hW' p
    have hSp : nS (wE (nAdd (nUnpin ν' p j a 3) (nI (τ.2 6 a))) l) p = (nS ν' p).eraseIdx j := if_pos rfl
    refine (c_undoL (e := (2, a, p, j, u, lo)) d hT hW hl12 (show a < 8 by omega) hN (Or.inl ⟨(by show (if a = a then 3 else nF ν' a) ≠ 1; rw [if_pos rfl]; decide), rfl⟩) (Wf_lef0 hW (by show (if a = a then 3 else nF ν' a) ≠ 1; rw [if_pos rfl]; decide)) (fun _ => ⟨(show p < 4 by omega), by show (nS (wE (nAdd (nUnpin ν' p j a 3) (nI (τ.2 6 a))) l) p).length < 5; rw [hSp, List.length_eraseIdx, if_pos hjl]; omega, by show j ≤ (nS (wE (nAdd (nUnpin ν' p j a 3) (nI (τ.2 6 a))) l) p).length; rw [hSp, List.length_eraseIdx, if_pos hjl]; omega⟩)).mono ?_
    rintro r σ' ⟨rfl, h7, h8⟩
    refine ⟨rfl, ?_, h8⟩
    rw [if_neg (Nat.succ_ne_zero _)] at h7
    refine h7.ml ?_ (funext fun x => ?_) (fun x hx => ?_) (funext fun x => ?_) rfl
    · show ν'.1 = (ν'.1.1, ν'.1.2.1, lo)
      rw [h3]
    · show nF ν' x = (if x = a then 1 else if x = a then 3 else nF ν' x)
      by_cases e : x = a
      · rw [if_pos e, e]
        exact (w3 a).mpr ⟨p, hm⟩
      · rw [if_neg e, if_neg e]
    · show nM ν' x = (if x = a then u else nM ν' x)
      by_cases e : x = a
      · rw [if_pos e, e, h2]
      · rw [if_neg e]
    · show nS ν' x = (if x = p then (if p = p then (nS ν' p).eraseIdx j else nS ν' p).insertIdx j a else (if x = p then (nS ν' p).eraseIdx j else nS ν' x))
      by_cases e : x = p
      · rw [if_pos e, if_pos rfl, in_er h1, e]
      · rw [if_neg e, if_neg e]
  · obtain ⟨s, a, p, j, u, lo⟩ := e
    dsimp only at *
    subst h0
    have hν := wE_eq h4
    rw [hl] at hν
    subst hν
    have hm := List.mem_of_getElem? h1
    have hpP : p < tP τ := w4 p (List.ne_nil_of_mem hm)
    have haA := (w5 p).2.2 a hm
    have hjl : j < (nS ν' p).length := (List.getElem?_eq_some_iff.mp h1).1
    have hl5 := xl5 hT hW' p
    have hSq : nS (nUnpin ν' p j a 3) q = nS ν' q := if_neg (Ne.symm hq2)
    have hmem : (nS (nPin (nUnpin ν' p j a 3) a q (nS ν' q).length (nM ν' a)) q)[(nS ν' q).length]? = some a := by
      rw [nS_pi, if_pos rfl, hSq, List.getElem?_insertIdx, if_neg (Nat.lt_irrefl _), if_pos rfl, if_pos (Nat.le_refl _)]
    have hSp : nS (nUnpin (wE (nPin (nUnpin ν' p j a 3) a q (nS ν' q).length (nM ν' a)) l) q (nS ν' q).length a 0) p = (nS ν' p).eraseIdx j := by
      show (if p = q then _ else if p = q then _ else if p = p then (nS ν' p).eraseIdx j else nS ν' p) = _
      rw [if_neg hq2, if_neg hq2, if_pos rfl]
    refine (c_undoL (e := (3, a, p, j, u, lo)) d hT hW hl12 (show a < 8 by omega) hN (Or.inr ⟨q, (nS ν' q).length, hmem, rfl⟩) (Wf_unpin0 (ν := wE (nPin (nUnpin ν' p j a 3) a q (nS ν' q).length (nM ν' a)) l) hW hmem) (fun _ => ⟨(show p < 4 by omega), (show (nS (nUnpin (wE (nPin (nUnpin ν' p j a 3) a q (nS ν' q).length (nM ν' a)) l) q (nS ν' q).length a 0) p).length < 5 by rw [hSp, List.length_eraseIdx, if_pos hjl]; omega), (show j ≤ (nS (nUnpin (wE (nPin (nUnpin ν' p j a 3) a q (nS ν' q).length (nM ν' a)) l) q (nS ν' q).length a 0) p).length by rw [hSp, List.length_eraseIdx, if_pos hjl]; omega)⟩)).mono ?_
    rintro r σ' ⟨rfl, h7, h8⟩
    refine ⟨rfl, ?_, h8⟩
    rw [if_neg (Nat.succ_ne_zero _)] at h7
    refine h7.ml ?_ (funext fun x => ?_) (fun x hx => ?_) (funext fun x => ?_) rfl
    · show ν'.1 = (ν'.1.1, ν'.1.2.1, lo)
      rw [h3]
    · show nF ν' x = (if x = a then 1 else if x = a then 0 else if x = a then 1 else if x = a then 3 else nF ν' x)
      by_cases e : x = a
      · rw [if_pos e, e]
        exact (w3 a).mpr ⟨p, hm⟩
      · rw [if_neg e, if_neg e, if_neg e, if_neg e]
    · show nM ν' x = (if x = a then u else if x = a then nM ν' a else nM ν' x)
      by_cases e : x = a
      · rw [if_pos e, e, h2]
      · rw [if_neg e, if_neg e]
    · show nS ν' x = (if x = p then (nS (nUnpin (wE (nPin (nUnpin ν' p j a 3) a q (nS ν' q).length (nM ν' a)) l) q (nS ν' q).length a 0) p).insertIdx j a else nS (nUnpin (wE (nPin (nUnpin ν' p j a 3) a q (nS ν' q).length (nM ν' a)) l) q (nS ν' q).length a 0) x)
      rw [hSp]
      by_cases e : x = p
      · rw [if_pos e, in_er h1, e]
      · rw [if_neg e]
        show nS ν' x = (if x = q then (if q = q then (nS (nUnpin ν' p j a 3) q).insertIdx (nS ν' q).length a else nS (nUnpin ν' p j a 3) q).eraseIdx (nS ν' q).length else if x = q then (nS (nUnpin ν' p j a 3) q).insertIdx (nS ν' q).length a else if x = p then (nS ν' p).eraseIdx j else nS ν' x)
        by_cases e2 : x = q
        · rw [if_pos e2, if_pos rfl, hSq, er_in (Nat.le_refl _), e2]
        · rw [if_neg e2, if_neg e2, if_neg e]
