/-! ===== the class's now: pin, deeds ===== -/
theorem xl5 {τ : aT} {ν : aN} (hT : WfT τ) (hW : WfN τ ν) (p : Nat) : (nS ν p).length ≤ 5 := by
  by_cases hne : nS ν p = []
  · rw [hne]; simp
  · rcases (hW.2.2.2.2.1 p).2.1 with z | z
    · exact Nat.le_trans z (hT.2.2.2.1 p (hW.2.2.2.1 p hne)).1.2
    · exact absurd z hne
set_option maxHeartbeats 2000000 in
theorem c_pin (d : Nat) {τ : aT} {ν : aN} {σ : zSt} {p j a u : Nat} (hT : WfT τ) (hW : WfN τ ν) (hN : RNc 24 ν σ) (ha : a < 8) (hp : p < 4) (hf : nF ν a ≠ 1) (hl : (nS ν p).length < 5) (hj : j ≤ (nS ν p).length) :
    yC (d + 1) 24 [.ref 24, .int (nI a), .int (nI p), .int (nI j), .int (nI u)] σ (fun r σ' => r = none ∧ RNc 24 (nPin ν a p j u) σ' ∧ xO 24 31 σ σ' ∧ σ'.1 30 = σ.1 30) := by
  obtain ⟨r1, r2, r3, r4⟩ := id hN
  refine (c_pinC d σ a p j (nS ν p).length (nI u) ha hp hl (r3 p hp).1 hj).mono ?_
  rintro r σ' ⟨rfl, rfl⟩
  refine ⟨rfl, ?_, ((((((xO.rf σ).wA (by decide) (by decide)).wI (by decide) (by decide)).wI (by decide) (by decide)).wI (by decide) (by decide)).wI (by decide) (by decide)), rfl⟩
  obtain ⟨w1, w2, w3, w4, w5, w6, w7, w8⟩ := id hW
  refine ⟨?_, fun x hx => ?_, fun q hq => ?_, ?_⟩
  · simp only [wI1, wA1, ↓reduceIte, Nat.reduceAdd, Nat.reduceEqDiff]
    exact r1
  · simp only [wI1, wA1, ↓reduceIte, Nat.reduceAdd, Nat.reduceEqDiff, upd, nF_pi, nM_pi, nS_pi, nE_pi, n1_pi]
    by_cases e : x = a
    · subst e
      simp only [↓reduceIte]
      exact ⟨rfl, trivial, fun z => absurd rfl z⟩
    · simp only [if_neg e]
      exact r2 x hx
  · simp only [wI1, wA1, ↓reduceIte, Nat.reduceAdd, Nat.reduceEqDiff, upd, nF_pi, nM_pi, nS_pi, nE_pi, n1_pi]
    obtain ⟨q1, q2⟩ := r3 q hq
    have hna : ∀ i y, (nS ν q)[i]? = some y → y ≠ a := fun i y hy z => hf ((w3 a).mpr ⟨q, z ▸ List.mem_of_getElem? hy⟩)
    by_cases e : q = p
    · subst e
      simp only [↓reduceIte]
      refine ⟨by rw [List.length_insertIdx, if_pos hj], fun i y hy => ?_⟩
      rw [List.getElem?_insertIdx] at hy
      unfold shq
      by_cases hij : i < j
      · rw [if_pos hij] at hy
        rw [if_neg (by omega), if_neg (by omega), if_neg (hna i y hy)]
        exact q2 i y hy
      · rw [if_neg hij] at hy
        by_cases hije : i = j
        · rw [if_pos hije, if_pos (by omega)] at hy
          cases hy
          subst hije
          rw [if_pos rfl, if_pos rfl]
          exact ⟨rfl, rfl⟩
        · rw [if_neg hije] at hy
          have hil : i - 1 < (nS ν q).length := (List.getElem?_eq_some_iff.mp hy).1
          rw [if_neg (by omega), if_pos (by omega), if_neg (hna (i - 1) y hy)]
          have := q2 (i - 1) y hy
          rw [show 5 * q + i - 1 = 5 * q + (i - 1) by omega]
          exact this
    · simp only [if_neg e]
      refine ⟨q1, fun i y hy => ?_⟩
      have hil : i < (nS ν q).length := (List.getElem?_eq_some_iff.mp hy).1
      have := xl5 hT hW q
      unfold shq
      rw [if_neg (by omega), if_neg (by omega), if_neg (hna i y hy)]
      exact q2 i y hy
  · simp only [wI1, wA1, ↓reduceIte, Nat.reduceAdd, Nat.reduceEqDiff]
    exact r4
theorem xa2 (a : Nat) : nI a + 2 = nI (a + 2) := nI_add a 2
theorem xa3 (a : Nat) : nI a + 3 = nI (a + 3) := nI_add a 3
theorem xa4 (a : Nat) : nI a + 4 = nI (a + 4) := nI_add a 4
/-- a deed is minded: twelve at most -/
def nRem (ν : aN) (e : aD) : aN := (ν.1, nF ν, nM ν, nS ν, (if (nE ν).length = 12 then (nE ν).drop 1 else nE ν) ++ [e])
set_option maxHeartbeats 4000000 in
theorem c_remember (d : Nat) {ν : aN} {σ : zSt} {e : aD} (hN : RNc 24 ν σ) (ha : e.2.1 < 8) (hF3 : nF ν e.2.1 ≤ 3) (hE : (nE ν).length ≤ 12) (h5 : e.2.2.2.2.2 = nL ν)
    (hx : (nF ν e.2.1 ≠ 1 ∧ e.1 = 0) ∨ (nF ν e.2.1 = 1 ∧ e.1 ≠ 0 ∧ e.2.2.2.2.1 = nM ν e.2.1 ∧ σ.1 27 e.2.1 = nI e.2.2.1 ∧ e.2.2.1 < 4 ∧ e.2.2.2.1 < 5 ∧ σ.1 29 (5 * e.2.2.1 + e.2.2.2.1) = nI e.2.1 ∧ ∀ i, i < e.2.2.2.1 → σ.1 29 (5 * e.2.2.1 + i) ≠ nI e.2.1)) :
    yC (d + 2) 27 [.ref 24, .int (nI e.2.1)] σ (fun r σ' => r = none ∧ RNc 24 (nRem ν e) σ' ∧ xO 24 31 σ σ' ∧ σ'.1 25 = σ.1 25 ∧ σ'.1 26 = σ.1 26 ∧ σ'.1 27 = σ.1 27 ∧ σ'.1 28 = σ.1 28 ∧ σ'.1 29 = σ.1 29) := by
  obtain ⟨s, a, p, j, u, lo⟩ := e
  dsimp only at *
  subst h5
  refine C27 (Nat.le_of_ble_eq_true rfl) ?_
  simp only [lv_args, Value.category]
  obtain ⟨r1, r2, r3, r4⟩ := id hN
  suffices H : ∀ (l : List aD) (σ1 : zSt), l.length < 12 → xO 24 31 σ σ1 → σ1.1 25 = σ.1 25 ∧ σ1.1 26 = σ.1 26 ∧ σ1.1 27 = σ.1 27 ∧ σ1.1 28 = σ.1 28 ∧ σ1.1 29 = σ.1 29 → RNc 24 (ν.1, nF ν, nM ν, nS ν, l) σ1 → Y27 (d + 1) (fun r σ' => r = none ∧ RNc 24 (ν.1, nF ν, nM ν, nS ν, l ++ [(s, a, p, j, u, nL ν)]) σ' ∧ xO 24 31 σ σ' ∧ σ'.1 25 = σ.1 25 ∧ σ'.1 26 = σ.1 26 ∧ σ'.1 27 = σ.1 27 ∧ σ'.1 28 = σ.1 28 ∧ σ'.1 29 = σ.1 29) 38 [(0, .ref 24), (1, .int (nI a))] [] σ1 by
    rw [g27_0]
    simp only [g27_1, g27_4, g27_6, g27_9, g27_10, g27_11, g27_14, g27_15, g27_16, g27_19, g27_20, g27_23, g27_24, g27_25, g27_28, g27_29, g27_30, g27_33, g27_34, g27_35, zldI, zldJ, zldR, zlk, zs1, zc1, zs2, zc2, Value.category, zdup_i, zdup_r, zdup2_i, zdup2_l, zrcv, zrm, ↓reduceIte, Nat.reduceAdd, Nat.reduceEqDiff, Nat.reduceLeDiff, Nat.reduceMul, and_false, false_and, and_true, true_and, List.map_cons, List.map_nil, List.sum_cons, List.sum_nil, Option.toList_some, Option.toList_none, List.cons_append, List.nil_append, or_true, true_or, or_false, false_or, Nat.add_zero, Nat.zero_add, Nat.one_ne_zero, Nat.zero_ne_one, not_false_eq_true, not_true_eq_false, implies_true, forall_const, exists_eq_left, reduceCtorEq, false_implies, true_implies, wA1, wA2, wI1, wI2, wJ1, wJ2, wJ3, wR1, wR2, wR31, wR32, zK_0, zfv_0_0, zfv_0_1, zfv_0_2, zfv_0_3, zfv_0_4, zfv_0_5, zfv_0_6, zfv_0_7, zfv_0_8, zfv_0_9, zK_1, zfv_1_0, zfv_1_1, zfv_1_2, zfv_1_3, zfv_1_4, zfv_1_5, zfv_1_6, zK_2, zLn_2, zK_3, zLn_3, zK_4, zfv_4_0, zfv_4_1, zfv_4_2, zfv_4_3, zfv_4_4, zfv_4_5, zfv_4_6, zfv_4_7, zfv_4_8, zfv_4_9, zfv_4_10, zfv_4_11, zK_5, zLn_5, zK_6, zLn_6, zK_7, zLn_7, zK_8, zLn_8, zK_9, zLn_9, zK_10, zLn_10, zK_11, zLn_11, zK_12, zLn_12, zK_13, zLn_13, zK_14, zfv_14_0, zfv_14_1, zfv_14_2, zfv_14_3, zfv_14_4, zfv_14_5, zfv_14_6, zfv_14_7, zfv_14_8, zfv_14_9, zfv_14_10, zfv_14_11, zK_15, zLn_15, zK_16, zLn_16, zK_17, zLn_17, zK_18, zLn_18, zK_19, zLn_19, zK_20, zLn_20, zK_21, zLn_21, zK_22, zLn_22, zK_23, zLn_23, zK_24, zfv_24_0, zfv_24_1, zfv_24_2, zfv_24_3, zfv_24_4, zfv_24_5, zfv_24_6, zfv_24_7, zfv_24_8, zfv_24_9, zK_25, zLn_25, zK_26, zLn_26, zK_27, zLn_27, zK_28, zLn_28, zK_29, zLn_29, zK_30, zLn_30, zK_31, zfv_31_0, zfv_31_1, zfv_31_2, zfv_31_3, zfv_31_4, zfv_31_5, zfv_31_6, zfv_31_7, zfv_31_8, zfv_31_9, zK_32, zLn_32, zK_33, zLn_33, zK_34, zLn_34, zK_35, zLn_35, zK_36, zLn_36, zK_37, zLn_37, zK_38, zfv_38_0, zfv_38_1, zfv_38_2, zfv_38_3, zfv_38_4, zfv_38_5, zfv_38_6, zfv_38_7, zfv_38_8, zfv_38_9, zK_39, zLn_39, zK_40, zLn_40, zK_41, zLn_41, zK_42, zLn_42, zK_43, zLn_43, zK_44, zLn_44, zK_45, zLn_45, zK_46, zLn_46, zK_47, zfv_47_0, zfv_47_1, zfv_47_2, zfv_47_3, zfv_47_4, zfv_47_5, zfv_47_6, zK_48, zLn_48, zK_49, zLn_49, zK_50, zLn_50, zK_51, zLn_51, zK_52, zLn_52, zK_53, zLn_53, zK_54, zLn_54, zK_55, zLn_55, zK_56, zLn_56, zK_57, zLn_57, zK_58, zLn_58, zK_59, zLn_59, zK_60, zfv_60_0, zfv_60_1, zfv_60_2, zK_61, zLn_61, zK_62, zfv_62_0, zK_63, zLn_63, zK_64, zfv_64_0, zfv_64_1, zfv_64_2, zfv_64_3, zfv_64_4, zfv_64_5, zfv_64_6, zfv_64_7, zfv_64_8, zfv_64_9, zfv_64_10, zfv_64_11, zfv_64_12, zfv_64_13, zfv_64_14, zfv_64_15, zfv_64_16, zfv_64_17, zfv_64_18, zfv_64_19, zfv_64_20, zfv_64_21, zfv_64_22, zfv_64_23, zfv_64_24, zfv_64_25, zfv_64_26, zfv_64_27, zK_65, zLn_65, zK_66, zLn_66, zK_67, zLn_67, zK_68, zLn_68, zK_69, zLn_69, zK_70, zLn_70, zK_71, zLn_71, zK_72, zLn_72, zK_73, zLn_73, zK_74, zLn_74, zK_75, zLn_75, zK_76, zLn_76, zK_77, zLn_77, zK_78, zLn_78, zK_79, zLn_79, zK_80, zLn_80, zK_81, zLn_81, r1.2.2.2, x5]
    refine ⟨fun h => ?_, fun h => ?_⟩
    · have hlt : (nE ν).length < 12 := by
        rcases Nat.lt_or_ge (nE ν).length 12 with q | q
        · exact q
        · exact absurd (show nI (nE ν).length = nI 12 by rw [show (nE ν).length = 12 by omega]) h
      have := H (nE ν) σ hlt (xO.rf σ) ⟨rfl, rfl, rfl, rfl, rfl⟩ hN
      unfold nRem
      rw [if_neg (by omega)]
      exact this
    · have h12 : (nE ν).length = 12 := by
        have := (nI_eq (a := (nE ν).length) (b := 12) (by omega) (by decide)).mp h
        exact this
      unfold nRem
      rw [if_pos h12, h12]
      simp only [pk_us]
      refine ⟨⟨by decide, by decide, by decide, by decide, by decide⟩, ?_⟩
      refine H ((nE ν).drop 1) _ (by simp [h12]) (((xO.rf σ).wI (by decide) (by decide)).wA (by decide) (by decide)) ⟨rfl, rfl, rfl, rfl, rfl⟩ ⟨?_, ?_, ?_, ?_⟩
      · simp only [wI1, wA1, ↓reduceIte, Nat.reduceAdd, Nat.reduceEqDiff]
        refine ⟨r1.1, r1.2.1, r1.2.2.1, ?_⟩
        rw [pk_us]
        show nI 12 - 1 = nI ((nE ν).drop 1).length
        rw [List.length_drop, h12]
        rfl
      · simp only [wI1, wA1, ↓reduceIte, Nat.reduceAdd, Nat.reduceEqDiff]
        exact r2
      · simp only [wI1, wA1, ↓reduceIte, Nat.reduceAdd, Nat.reduceEqDiff]
        exact r3
      · simp only [wI1, wA1, ↓reduceIte, Nat.reduceAdd, Nat.reduceEqDiff]
        intro k e hk
        have hk' : (nE ν)[1 + k]? = some e := by
          have : ((nE ν).drop 1)[k]? = some e := hk
          rwa [List.getElem?_drop] at this
        have hkl : 1 + k < 12 := by
          rw [← h12]
          exact (List.getElem?_eq_some_iff.mp hk').1
        have hr := r4 (1 + k) e hk'
        have c : ∀ i, i < 5 → va_cpy (σ.1 30) (σ.1 30) (Int32.toNatClampNeg 5) (Int32.toNatClampNeg 0) (Int32.toNatClampNeg ((nI 12 - 1) * 5)) (5 * k + i) = σ.1 30 (5 * (1 + k) + i) := by
          intro i hi
          have e1 : Int32.toNatClampNeg 5 = 5 := by decide
          have e2 : Int32.toNatClampNeg 0 = 0 := by decide
          have e3 : Int32.toNatClampNeg ((nI 12 - 1) * 5) = 55 := by decide
          rw [e1, e2, e3, pk_cpy_in (by omega) (by omega)]
          rw [show 5 + (5 * k + i - 0) = 5 * (1 + k) + i by omega]
        have c0 := c 0 (by decide)
        rw [Nat.add_zero, Nat.add_zero] at c0
        rw [c0, c 1 (by decide), c 2 (by decide), c 3 (by decide), c 4 (by decide)]
        exact hr
  intro l σ1 hl hO hsame hN1
  obtain ⟨t1, t2, t3, t4⟩ := id hN1
  have hm : σ1.1 24 8 = nI l.length := t1.2.2.2
  have hfa : σ1.1 25 a = nI (nF ν a) := (t2 a ha).1
  have hLF : σ1.1 26 a = nI (if nF ν a = 1 then nM ν a else 0) := (t2 a ha).2.1
  have hlo : σ1.1 24 2 = nL ν := t1.2.2.1
  rw [g27_38]
  simp only [g27_39, g27_42, g27_43, g27_44, g27_45, g27_46, g27_49, g27_50, g27_51, g27_52, g27_53, g27_54, g27_55, g27_58, g27_59, g27_60, g27_61, g27_62, g27_65, g27_66, g27_67, g27_68, g27_69, g27_72, g27_73, g27_74, g27_75, g27_76, g27_79, g27_80, g27_81, g27_82, g27_85, g27_86, g27_87, g27_93, zldI, zldJ, zldR, zlk, zs1, zc1, zs2, zc2, Value.category, zdup_i, zdup_r, zdup2_i, zdup2_l, zrcv, zrm, ↓reduceIte, Nat.reduceAdd, Nat.reduceEqDiff, Nat.reduceLeDiff, Nat.reduceMul, and_false, false_and, and_true, true_and, List.map_cons, List.map_nil, List.sum_cons, List.sum_nil, Option.toList_some, Option.toList_none, List.cons_append, List.nil_append, or_true, true_or, or_false, false_or, Nat.add_zero, Nat.zero_add, Nat.one_ne_zero, Nat.zero_ne_one, not_false_eq_true, not_true_eq_false, implies_true, forall_const, exists_eq_left, reduceCtorEq, false_implies, true_implies, wA1, wA2, wI1, wI2, wJ1, wJ2, wJ3, wR1, wR2, wR31, wR32, zK_0, zfv_0_0, zfv_0_1, zfv_0_2, zfv_0_3, zfv_0_4, zfv_0_5, zfv_0_6, zfv_0_7, zfv_0_8, zfv_0_9, zK_1, zfv_1_0, zfv_1_1, zfv_1_2, zfv_1_3, zfv_1_4, zfv_1_5, zfv_1_6, zK_2, zLn_2, zK_3, zLn_3, zK_4, zfv_4_0, zfv_4_1, zfv_4_2, zfv_4_3, zfv_4_4, zfv_4_5, zfv_4_6, zfv_4_7, zfv_4_8, zfv_4_9, zfv_4_10, zfv_4_11, zK_5, zLn_5, zK_6, zLn_6, zK_7, zLn_7, zK_8, zLn_8, zK_9, zLn_9, zK_10, zLn_10, zK_11, zLn_11, zK_12, zLn_12, zK_13, zLn_13, zK_14, zfv_14_0, zfv_14_1, zfv_14_2, zfv_14_3, zfv_14_4, zfv_14_5, zfv_14_6, zfv_14_7, zfv_14_8, zfv_14_9, zfv_14_10, zfv_14_11, zK_15, zLn_15, zK_16, zLn_16, zK_17, zLn_17, zK_18, zLn_18, zK_19, zLn_19, zK_20, zLn_20, zK_21, zLn_21, zK_22, zLn_22, zK_23, zLn_23, zK_24, zfv_24_0, zfv_24_1, zfv_24_2, zfv_24_3, zfv_24_4, zfv_24_5, zfv_24_6, zfv_24_7, zfv_24_8, zfv_24_9, zK_25, zLn_25, zK_26, zLn_26, zK_27, zLn_27, zK_28, zLn_28, zK_29, zLn_29, zK_30, zLn_30, zK_31, zfv_31_0, zfv_31_1, zfv_31_2, zfv_31_3, zfv_31_4, zfv_31_5, zfv_31_6, zfv_31_7, zfv_31_8, zfv_31_9, zK_32, zLn_32, zK_33, zLn_33, zK_34, zLn_34, zK_35, zLn_35, zK_36, zLn_36, zK_37, zLn_37, zK_38, zfv_38_0, zfv_38_1, zfv_38_2, zfv_38_3, zfv_38_4, zfv_38_5, zfv_38_6, zfv_38_7, zfv_38_8, zfv_38_9, zK_39, zLn_39, zK_40, zLn_40, zK_41, zLn_41, zK_42, zLn_42, zK_43, zLn_43, zK_44, zLn_44, zK_45, zLn_45, zK_46, zLn_46, zK_47, zfv_47_0, zfv_47_1, zfv_47_2, zfv_47_3, zfv_47_4, zfv_47_5, zfv_47_6, zK_48, zLn_48, zK_49, zLn_49, zK_50, zLn_50, zK_51, zLn_51, zK_52, zLn_52, zK_53, zLn_53, zK_54, zLn_54, zK_55, zLn_55, zK_56, zLn_56, zK_57, zLn_57, zK_58, zLn_58, zK_59, zLn_59, zK_60, zfv_60_0, zfv_60_1, zfv_60_2, zK_61, zLn_61, zK_62, zfv_62_0, zK_63, zLn_63, zK_64, zfv_64_0, zfv_64_1, zfv_64_2, zfv_64_3, zfv_64_4, zfv_64_5, zfv_64_6, zfv_64_7, zfv_64_8, zfv_64_9, zfv_64_10, zfv_64_11, zfv_64_12, zfv_64_13, zfv_64_14, zfv_64_15, zfv_64_16, zfv_64_17, zfv_64_18, zfv_64_19, zfv_64_20, zfv_64_21, zfv_64_22, zfv_64_23, zfv_64_24, zfv_64_25, zfv_64_26, zfv_64_27, zK_65, zLn_65, zK_66, zLn_66, zK_67, zLn_67, zK_68, zLn_68, zK_69, zLn_69, zK_70, zLn_70, zK_71, zLn_71, zK_72, zLn_72, zK_73, zLn_73, zK_74, zLn_74, zK_75, zLn_75, zK_76, zLn_76, zK_77, zLn_77, zK_78, zLn_78, zK_79, zLn_79, zK_80, zLn_80, zK_81, zLn_81, hm, x5, Int32.add_zero, nI_1, xa2, nI_clamp (show a < 2 ^ 31 by omega), nI_clamp (show 5 * l.length < 2 ^ 31 by omega), nI_clamp (show 5 * l.length + 1 < 2 ^ 31 by omega), hfa]
  have hsl : σ1.1 27 a = (if s = 0 then -1 else nI p) := by
    rw [hsame.2.2.1]
    rcases hx with ⟨h1, h2⟩ | ⟨h1, h2, h3, h4, h5⟩
    · rw [if_pos h2]
      exact (r2 a ha).2.2 h1
    · rw [if_neg h2]
      exact h4
  have hlf : σ1.1 26 a = (if s = 0 then 0 else nI u) := by
    rw [hLF]
    rcases hx with ⟨h1, h2⟩ | ⟨h1, h2, h3, h4, h5⟩
    · rw [if_pos h2, if_neg h1]
      rfl
    · rw [if_neg h2, if_pos h1, h3]
  have G : ∀ v, v = (if s = 0 then 0 else nI j) → Y27 (d + 1) (fun r σ' => r = none ∧ RNc 24 (ν.1, nF ν, nM ν, nS ν, l ++ [(s, a, p, j, u, nL ν)]) σ' ∧ xO 24 31 σ σ' ∧ σ'.1 25 = σ.1 25 ∧ σ'.1 26 = σ.1 26 ∧ σ'.1 27 = σ.1 27 ∧ σ'.1 28 = σ.1 28 ∧ σ'.1 29 = σ.1 29) 94 [(0, .ref 24), (1, .int (nI a)), (2, .int (nI (5 * l.length)))] [.int v, .int (nI (5 * l.length + 2)), .ref 30] (zwI (zwI σ1 30 (5 * l.length) (nI a)) 30 (5 * l.length + 1) (σ1.1 27 a)) := by
    intro v hv
    rw [g27_94]
    simp only [g27_95, g27_96, g27_99, g27_100, g27_101, g27_102, g27_103, g27_106, g27_107, g27_108, g27_109, g27_110, g27_113, g27_114, g27_115, g27_116, g27_117, g27_120, g27_121, g27_122, g27_123, g27_126, g27_127, g27_128, g27_131, zldI, zldJ, zldR, zlk, zs1, zc1, zs2, zc2, Value.category, zdup_i, zdup_r, zdup2_i, zdup2_l, zrcv, zrm, ↓reduceIte, Nat.reduceAdd, Nat.reduceEqDiff, Nat.reduceLeDiff, Nat.reduceMul, and_false, false_and, and_true, true_and, List.map_cons, List.map_nil, List.sum_cons, List.sum_nil, Option.toList_some, Option.toList_none, List.cons_append, List.nil_append, or_true, true_or, or_false, false_or, Nat.add_zero, Nat.zero_add, Nat.one_ne_zero, Nat.zero_ne_one, not_false_eq_true, not_true_eq_false, implies_true, forall_const, exists_eq_left, reduceCtorEq, false_implies, true_implies, wA1, wA2, wI1, wI2, wJ1, wJ2, wJ3, wR1, wR2, wR31, wR32, zK_0, zfv_0_0, zfv_0_1, zfv_0_2, zfv_0_3, zfv_0_4, zfv_0_5, zfv_0_6, zfv_0_7, zfv_0_8, zfv_0_9, zK_1, zfv_1_0, zfv_1_1, zfv_1_2, zfv_1_3, zfv_1_4, zfv_1_5, zfv_1_6, zK_2, zLn_2, zK_3, zLn_3, zK_4, zfv_4_0, zfv_4_1, zfv_4_2, zfv_4_3, zfv_4_4, zfv_4_5, zfv_4_6, zfv_4_7, zfv_4_8, zfv_4_9, zfv_4_10, zfv_4_11, zK_5, zLn_5, zK_6, zLn_6, zK_7, zLn_7, zK_8, zLn_8, zK_9, zLn_9, zK_10, zLn_10, zK_11, zLn_11, zK_12, zLn_12, zK_13, zLn_13, zK_14, zfv_14_0, zfv_14_1, zfv_14_2, zfv_14_3, zfv_14_4, zfv_14_5, zfv_14_6, zfv_14_7, zfv_14_8, zfv_14_9, zfv_14_10, zfv_14_11, zK_15, zLn_15, zK_16, zLn_16, zK_17, zLn_17, zK_18, zLn_18, zK_19, zLn_19, zK_20, zLn_20, zK_21, zLn_21, zK_22, zLn_22, zK_23, zLn_23, zK_24, zfv_24_0, zfv_24_1, zfv_24_2, zfv_24_3, zfv_24_4, zfv_24_5, zfv_24_6, zfv_24_7, zfv_24_8, zfv_24_9, zK_25, zLn_25, zK_26, zLn_26, zK_27, zLn_27, zK_28, zLn_28, zK_29, zLn_29, zK_30, zLn_30, zK_31, zfv_31_0, zfv_31_1, zfv_31_2, zfv_31_3, zfv_31_4, zfv_31_5, zfv_31_6, zfv_31_7, zfv_31_8, zfv_31_9, zK_32, zLn_32, zK_33, zLn_33, zK_34, zLn_34, zK_35, zLn_35, zK_36, zLn_36, zK_37, zLn_37, zK_38, zfv_38_0, zfv_38_1, zfv_38_2, zfv_38_3, zfv_38_4, zfv_38_5, zfv_38_6, zfv_38_7, zfv_38_8, zfv_38_9, zK_39, zLn_39, zK_40, zLn_40, zK_41, zLn_41, zK_42, zLn_42, zK_43, zLn_43, zK_44, zLn_44, zK_45, zLn_45, zK_46, zLn_46, zK_47, zfv_47_0, zfv_47_1, zfv_47_2, zfv_47_3, zfv_47_4, zfv_47_5, zfv_47_6, zK_48, zLn_48, zK_49, zLn_49, zK_50, zLn_50, zK_51, zLn_51, zK_52, zLn_52, zK_53, zLn_53, zK_54, zLn_54, zK_55, zLn_55, zK_56, zLn_56, zK_57, zLn_57, zK_58, zLn_58, zK_59, zLn_59, zK_60, zfv_60_0, zfv_60_1, zfv_60_2, zK_61, zLn_61, zK_62, zfv_62_0, zK_63, zLn_63, zK_64, zfv_64_0, zfv_64_1, zfv_64_2, zfv_64_3, zfv_64_4, zfv_64_5, zfv_64_6, zfv_64_7, zfv_64_8, zfv_64_9, zfv_64_10, zfv_64_11, zfv_64_12, zfv_64_13, zfv_64_14, zfv_64_15, zfv_64_16, zfv_64_17, zfv_64_18, zfv_64_19, zfv_64_20, zfv_64_21, zfv_64_22, zfv_64_23, zfv_64_24, zfv_64_25, zfv_64_26, zfv_64_27, zK_65, zLn_65, zK_66, zLn_66, zK_67, zLn_67, zK_68, zLn_68, zK_69, zLn_69, zK_70, zLn_70, zK_71, zLn_71, zK_72, zLn_72, zK_73, zLn_73, zK_74, zLn_74, zK_75, zLn_75, zK_76, zLn_76, zK_77, zLn_77, zK_78, zLn_78, zK_79, zLn_79, zK_80, zLn_80, zK_81, zLn_81, hm, x5, nI_1, xa3, xa4, nI_clamp (show a < 2 ^ 31 by omega), nI_clamp (show 5 * l.length + 2 < 2 ^ 31 by omega), nI_clamp (show 5 * l.length + 3 < 2 ^ 31 by omega), nI_clamp (show 5 * l.length + 4 < 2 ^ 31 by omega), hlo]
    refine ⟨vp_in_nI (by omega) (by decide), vp_in_nI ha (by decide), vp_in_nI (by omega) (by decide), vp_in_nI (by omega) (by decide), ?_, (((((hO.wI (by decide) (by decide)).wI (by decide) (by decide)).wI (by decide) (by decide)).wI (by decide) (by decide)).wI (by decide) (by decide)).wI (by decide) (by decide), hsame⟩
    refine ⟨?_, ?_, ?_, ?_⟩
    · simp only [wI1, wA1, ↓reduceIte, Nat.reduceAdd, Nat.reduceEqDiff]
      refine ⟨t1.1, t1.2.1, t1.2.2.1, ?_⟩
      rw [pk_us]
      show nI (l.length + 1) = nI (l ++ [(s, a, p, j, u, nL ν)]).length
      rw [List.length_append]
      rfl
    · simp only [wI1, wA1, ↓reduceIte, Nat.reduceAdd, Nat.reduceEqDiff]
      exact t2
    · simp only [wI1, wA1, ↓reduceIte, Nat.reduceAdd, Nat.reduceEqDiff]
      exact t3
    · simp only [wI1, wA1, ↓reduceIte, Nat.reduceAdd, Nat.reduceEqDiff]
      intro k e hk
      have hk : (l ++ [(s, a, p, j, u, nL ν)])[k]? = some e := hk
      by_cases hkl : k < l.length
      · rw [List.getElem?_append_left hkl] at hk
        have := t4 k e hk
        repeat rw [pk_un (by omega)]
        exact this
      · rw [List.getElem?_append_right (by omega)] at hk
        have hk0 : k - l.length = 0 := by
          have := (List.getElem?_eq_some_iff.mp hk).1
          simp at this
          omega
        rw [hk0] at hk
        cases hk
        have hkk : k = l.length := by omega
        subst hkk
        simp only [upd, Nat.reduceEqDiff, ↓reduceIte, Nat.add_left_cancel_iff, Nat.add_eq_left, Nat.left_eq_add]
        exact ⟨trivial, hsl, hv, hlf, trivial⟩
  refine ⟨vp_in_nI (by omega) (by decide), vp_in_nI ha (by decide), vp_in_nI (by omega) (by decide), vp_in_nI ha (by decide), fun h => G 0 ?_, fun h => ?_⟩
  · rcases hx with ⟨h1, h2⟩ | ⟨h1, h2⟩
    · rw [if_pos h2]
    · exact absurd (by rw [h1]; rfl) h
  · have h1 : nF ν a = 1 := (nI_eq (a := nF ν a) (b := 1) (by omega) (by decide)).mp h
    rcases hx with ⟨h2, -⟩ | ⟨-, h2, h3, h4, h5, h6, h7, h8⟩
    · exact absurd h1 h2
    · refine ycall (c_placeOfC d _ a p j ha h5 (by simp only [wI1, ↓reduceIte, Nat.reduceEqDiff]; rw [hsame.2.2.1]; exact h4) h6 (by simp only [wI1, ↓reduceIte, Nat.reduceEqDiff]; rw [hsame.2.2.2.2]; exact h7) (fun i hi => by simp only [wI1, ↓reduceIte, Nat.reduceEqDiff]; rw [hsame.2.2.2.2]; exact h8 i hi)) ?_
      rintro _ _ ⟨rfl, rfl⟩
      simp only [Option.toList_some, List.cons_append, List.nil_append]
      rw [g27_90]
      exact G (nI j) (by rw [if_neg h2])
