/-! ===== a unit of work, a day's work ===== -/
def nWin (ν : aN) (x : Int32) : aN := ((nD ν, nW ν + x, nL ν), nF ν, nM ν, nS ν, nE ν)
def wk1 (τ : aT) (p a : Nat) (ν : aN) : aN := if nM ν a = 1 then nWin (nUnpin (nLef ν a 0) p ((nS ν p).idxOf a) a 2) (nI (τ.2 6 a)) else nLef ν a (nM ν a - 1)
def wkU (τ : aT) (p : Nat) : Nat → aN → aN × Nat
  | 0, ν => (ν, 0)
  | u + 1, ν => match (nS ν p).find? (fr τ ν) with
    | none => (ν, 0)
    | some a => ((wkU τ p u (wk1 τ p a ν)).1, (if nM ν a = 1 then 1 else 0) + (wkU τ p u (wk1 τ p a ν)).2)
theorem wkU_0 (τ : aT) (p : Nat) (ν : aN) : wkU τ p 0 ν = (ν, 0) := rfl
theorem wkU_n {τ : aT} {p u : Nat} {ν : aN} (h : (nS ν p).find? (fr τ ν) = none) : wkU τ p u ν = (ν, 0) := by
  cases u with
  | zero => rfl
  | succ u => unfold wkU; rw [h]
theorem wkU_s {τ : aT} {p u a : Nat} {ν : aN} (h : (nS ν p).find? (fr τ ν) = some a) : wkU τ p (u + 1) ν = ((wkU τ p u (wk1 τ p a ν)).1, (if nM ν a = 1 then 1 else 0) + (wkU τ p u (wk1 τ p a ν)).2) := by
  rw [wkU, h]
section
variable {τ : aT} {ν : aN} {σ : zSt}
theorem Wf_lef {a u : Nat} (h : WfN τ ν) (hf : nF ν a = 1) (hu : 1 ≤ u ∧ u ≤ 9) : WfN τ (nLef ν a u) := by
  obtain ⟨w1, w2, w3, w4, w5, w6, w7, w8⟩ := h
  refine ⟨w1, w2, w3, w4, w5, w6, fun x hx => ?_, fun x hx => ?_⟩
  · show (if x = a then u else nM ν x) = 0
    rw [if_neg]
    · exact w7 x hx
    · rintro rfl
      have : nF ν x = 0 := hx
      omega
  · show 1 ≤ (if x = a then u else nM ν x) ∧ (if x = a then u else nM ν x) ≤ 9
    by_cases e : x = a
    · rw [if_pos e]; exact hu
    · rw [if_neg e]; exact w8 x hx
theorem Wf_wk1 {p a : Nat} (h : WfN τ ν) (ha : a ∈ nS ν p) : WfN τ (wk1 τ p a ν) := by
  have hf : nF ν a = 1 := (h.2.2.1 a).mpr ⟨p, ha⟩
  have hm := h.2.2.2.2.2.2.2 a hf
  unfold wk1
  by_cases e : nM ν a = 1
  · rw [if_pos e]
    have h1 := Wf_unpin (f := 2) h (idx_at ha) (by decide) (by decide) (fun z => absurd z (by decide))
    exact Wf_lef0 h1 (by rw [nF_un, if_pos rfl]; decide)
  · rw [if_neg e]
    exact Wf_lef h hf (by omega)
theorem fd_mem {l : List Nat} {P : Nat → Bool} {a : Nat} (h : l.find? P = some a) : a ∈ l := List.mem_of_find?_eq_some h
theorem Wf_wkU {p : Nat} : ∀ (u : Nat) {ν : aN}, WfN τ ν → WfN τ (wkU τ p u ν).1
  | 0, _, h => h
  | u + 1, ν, h => by
    rcases hf : (nS ν p).find? (fr τ ν) with _ | a
    · rw [wkU_n hf]; exact h
    · rw [wkU_s hf]; exact Wf_wkU u (Wf_wk1 h (fd_mem hf))
theorem wkU_le {p : Nat} : ∀ (u : Nat) {ν : aN}, (wkU τ p u ν).2 ≤ u
  | 0, _ => Nat.le_refl 0
  | u + 1, ν => by
    rcases hf : (nS ν p).find? (fr τ ν) with _ | a
    · rw [wkU_n hf]; exact Nat.zero_le _
    · rw [wkU_s hf]
      have := wkU_le (p := p) u (ν := wk1 τ p a ν)
      dsimp only
      split <;> omega
theorem RNc_lef {a u : Nat} (hN : RNc 24 ν σ) (hf : nF ν a = 1) : RNc 24 (nLef ν a u) (zwI σ 26 a (nI u)) := by
  obtain ⟨r1, r2, r3, r4⟩ := hN
  refine ⟨?_, fun x hx => ?_, fun q hq => ?_, ?_⟩
  · simp only [wI1, wA1, ↓reduceIte, Nat.reduceAdd, Nat.reduceEqDiff]; exact r1
  · simp only [wI1, wA1, ↓reduceIte, Nat.reduceAdd, Nat.reduceEqDiff, upd]
    obtain ⟨a1, a2, a3⟩ := r2 x hx
    refine ⟨a1, ?_, a3⟩
    show _ = nI (if nF ν x = 1 then (if x = a then u else nM ν x) else 0)
    by_cases e : x = a
    · rw [if_pos e, if_pos e, if_pos (e ▸ hf)]
    · rw [if_neg e, if_neg e]; exact a2
  · simp only [wI1, wA1, ↓reduceIte, Nat.reduceAdd, Nat.reduceEqDiff]; exact r3 q hq
  · simp only [wI1, wA1, ↓reduceIte, Nat.reduceAdd, Nat.reduceEqDiff]; exact r4
theorem RNc_win {x : Int32} (hN : RNc 24 ν σ) : RNc 24 (nWin ν x) (zwI σ 24 1 (nW ν + x)) := by
  obtain ⟨r1, r2, r3, r4⟩ := hN
  refine ⟨?_, fun x hx => ?_, fun q hq => ?_, ?_⟩
  · simp only [wI1, wA1, ↓reduceIte, Nat.reduceAdd, Nat.reduceEqDiff, upd]; exact ⟨r1.1, rfl, r1.2.2⟩
  · simp only [wI1, wA1, ↓reduceIte, Nat.reduceAdd, Nat.reduceEqDiff]; exact r2 x hx
  · simp only [wI1, wA1, ↓reduceIte, Nat.reduceAdd, Nat.reduceEqDiff]; exact r3 q hq
  · simp only [wI1, wA1, ↓reduceIte, Nat.reduceAdd, Nat.reduceEqDiff]; exact r4
set_option maxHeartbeats 2000000 in
/-- a slip is taken off whose units are changed already -/
theorem c_unpin0 (d : Nat) {p j a f u : Nat} (hT : WfT τ) (hW : WfN τ ν) (hN0 : RNc 24 (nLef ν a u) σ) (h : (nS ν p)[j]? = some a) (hf : f ≠ 1) :
    yC (d + 2) 25 [.ref 24, .int (nI a), .int (nI f)] σ (fun r σ' => r = none ∧ RNc 24 (nUnpin (nLef ν a u) p j a f) σ' ∧ xO 24 31 σ σ') := by
  have hfa : nF ν a = 1 := (hW.2.2.1 a).mpr ⟨p, List.mem_of_getElem? h⟩
  have hN1 : RNc 24 ν (zwI σ 26 a (nI (nM ν a))) := by
    have := RNc_lef (u := nM ν a) hN0 hfa
    refine this.ml rfl rfl (fun x _ => ?_) rfl rfl
    show nM ν x = if x = a then nM ν a else (if x = a then u else nM ν x)
    by_cases e : x = a
    · rw [if_pos e, e]
    · rw [if_neg e, if_neg e]
  obtain ⟨hp4, ha8, haA, hpP, hjl, hl5, -, hs, hc, hit, hno⟩ := xpin hT hW hN1 h
  simp only [wI1, wA1, ↓reduceIte, Nat.reduceAdd, Nat.reduceEqDiff] at hs hc hit hno
  obtain ⟨n, hn⟩ : ∃ n, (nS ν p).length = n + 1 := ⟨(nS ν p).length - 1, by omega⟩
  refine (c_unpinC d σ a p j n (nI f) ha8 hp4 hs (by omega) (by rw [hc, hn]) (by omega) hit hno).mono ?_
  rintro r σ' ⟨rfl, rfl⟩
  refine ⟨rfl, ?_, ((((((xO.rf σ).wI (by decide) (by decide)).wA (by decide) (by decide)).wI (by decide) (by decide)).wI (by decide) (by decide)).wI (by decide) (by decide))⟩
  obtain ⟨w1, w2, w3, w4, w5, w6, w7, w8⟩ := hW
  obtain ⟨r1, r2, r3, r4⟩ := hN0
  refine ⟨?_, fun x hx => ?_, fun q hq => ?_, ?_⟩
  · simp only [wI1, wA1, ↓reduceIte, Nat.reduceAdd, Nat.reduceEqDiff]
    exact r1
  · simp only [wI1, wA1, ↓reduceIte, Nat.reduceAdd, Nat.reduceEqDiff, upd, nF_un, nM_un, nS_un, nE_un, n1_un]
    by_cases e : x = a
    · subst e
      simp only [↓reduceIte, if_neg hf]
      exact ⟨trivial, rfl, fun _ => trivial⟩
    · simp only [if_neg e]
      exact r2 x hx
  · simp only [wI1, wA1, ↓reduceIte, Nat.reduceAdd, Nat.reduceEqDiff, upd, nF_un, nM_un, nS_un, nE_un, n1_un]
    obtain ⟨q1, q2⟩ := r3 q hq
    by_cases e : q = p
    · subst e
      simp only [↓reduceIte]
      refine ⟨by show nI n = nI ((nS ν q).eraseIdx j).length; rw [List.length_eraseIdx, if_pos hjl, hn]; rfl, fun i y hy => ?_⟩
      have hy : ((nS ν q).eraseIdx j)[i]? = some y := hy
      rw [List.getElem?_eraseIdx] at hy
      unfold shl
      by_cases hij : i < j
      · rw [if_pos hij] at hy
        have hya : y ≠ a := fun z => by
          have := xnd (w5 q).1 hy (z ▸ h)
          omega
        rw [if_neg (by omega), if_neg hya]
        exact q2 i y hy
      · rw [if_neg hij] at hy
        have hil : i + 1 < n + 1 := by
          rw [← hn]
          exact (List.getElem?_eq_some_iff.mp hy).1
        have hya : y ≠ a := fun z => by
          have := xnd (w5 q).1 hy (z ▸ h)
          omega
        rw [if_pos (by omega), if_neg hya]
        exact q2 (i + 1) y hy
    · simp only [if_neg e]
      refine ⟨q1, fun i y hy => ?_⟩
      have hy : (nS ν q)[i]? = some y := hy
      have hil : i < (nS ν q).length := (List.getElem?_eq_some_iff.mp hy).1
      have hne : nS ν q ≠ [] := fun z => by rw [z] at hil; simp at hil
      have hl5q : (nS ν q).length ≤ 5 := by
        rcases (w5 q).2.1 with z | z
        · exact Nat.le_trans z (hT.2.2.2.1 q (w4 q hne)).1.2
        · exact absurd z hne
      have hya : y ≠ a := fun z => e (w6 q p a (z ▸ List.mem_of_getElem? hy) (List.mem_of_getElem? h))
      unfold shl
      rw [if_neg (by omega), if_neg hya]
      exact q2 i y hy
  · simp only [wI1, wA1, ↓reduceIte, Nat.reduceAdd, Nat.reduceEqDiff]
    exact r4
theorem RNc.e24 {b : Nat} {v w : aN} {s : zSt} (h : RNc b v s) (e : v = w) : RNc b w s := e ▸ h
set_option maxHeartbeats 4000000 in
theorem c_workOf (d : Nat) {p : Nat} (hT : WfT τ) (hR : RTc 4 τ σ) (hW : WfN τ ν) (hN : RNc 24 ν σ) (hp : p < tP τ) :
    yC (d + 3) 30 [.ref 24, .ref 4, .int (nI p)] σ (fun r σ' => r = some (.int (nI (wkU τ p (τ.2 1 p) ν).2)) ∧ RNc 24 (wkU τ p (τ.2 1 p) ν).1 σ' ∧ xO 24 31 σ σ') := by
  have hp4 : p < 4 := Nat.lt_of_lt_of_le hp hT.1
  have hA := hT.2.1
  have e6 : σ.1 6 p = nI (τ.2 1 p) := (hR.2.1 p hp).2.1
  have h3 := (hT.2.2.2.1 p hp).2.1.2
  refine C30 (Nat.le_of_ble_eq_true rfl) ?_
  simp only [lv_args, Value.category]
  rw [g30_0]
  simp only [g30_1, g30_2, g30_3, zldI, zldJ, zldR, zlk, zs1, zc1, zs2, zc2, Value.category, zdup_i, zdup_r, zdup2_i, zdup2_l, zrcv, zrm, ↓reduceIte, Nat.reduceAdd, Nat.reduceEqDiff, Nat.reduceLeDiff, Nat.reduceMul, and_false, false_and, and_true, true_and, List.map_cons, List.map_nil, List.sum_cons, List.sum_nil, Option.toList_some, Option.toList_none, List.cons_append, List.nil_append, or_true, true_or, or_false, false_or, Nat.add_zero, Nat.zero_add, Nat.one_ne_zero, Nat.zero_ne_one, not_false_eq_true, not_true_eq_false, implies_true, forall_const, exists_eq_left, reduceCtorEq, false_implies, true_implies, wA1, wA2, wI1, wI2, wJ1, wJ2, wJ3, wR1, wR2, wR31, wR32, zK_0, zfv_0_0, zfv_0_1, zfv_0_2, zfv_0_3, zfv_0_4, zfv_0_5, zfv_0_6, zfv_0_7, zfv_0_8, zfv_0_9, zK_1, zfv_1_0, zfv_1_1, zfv_1_2, zfv_1_3, zfv_1_4, zfv_1_5, zfv_1_6, zK_2, zLn_2, zK_3, zLn_3, zK_4, zfv_4_0, zfv_4_1, zfv_4_2, zfv_4_3, zfv_4_4, zfv_4_5, zfv_4_6, zfv_4_7, zfv_4_8, zfv_4_9, zfv_4_10, zfv_4_11, zK_5, zLn_5, zK_6, zLn_6, zK_7, zLn_7, zK_8, zLn_8, zK_9, zLn_9, zK_10, zLn_10, zK_11, zLn_11, zK_12, zLn_12, zK_13, zLn_13, zK_14, zfv_14_0, zfv_14_1, zfv_14_2, zfv_14_3, zfv_14_4, zfv_14_5, zfv_14_6, zfv_14_7, zfv_14_8, zfv_14_9, zfv_14_10, zfv_14_11, zK_15, zLn_15, zK_16, zLn_16, zK_17, zLn_17, zK_18, zLn_18, zK_19, zLn_19, zK_20, zLn_20, zK_21, zLn_21, zK_22, zLn_22, zK_23, zLn_23, zK_24, zfv_24_0, zfv_24_1, zfv_24_2, zfv_24_3, zfv_24_4, zfv_24_5, zfv_24_6, zfv_24_7, zfv_24_8, zfv_24_9, zK_25, zLn_25, zK_26, zLn_26, zK_27, zLn_27, zK_28, zLn_28, zK_29, zLn_29, zK_30, zLn_30, zK_31, zfv_31_0, zfv_31_1, zfv_31_2, zfv_31_3, zfv_31_4, zfv_31_5, zfv_31_6, zfv_31_7, zfv_31_8, zfv_31_9, zK_32, zLn_32, zK_33, zLn_33, zK_34, zLn_34, zK_35, zLn_35, zK_36, zLn_36, zK_37, zLn_37, zK_38, zfv_38_0, zfv_38_1, zfv_38_2, zfv_38_3, zfv_38_4, zfv_38_5, zfv_38_6, zfv_38_7, zfv_38_8, zfv_38_9, zK_39, zLn_39, zK_40, zLn_40, zK_41, zLn_41, zK_42, zLn_42, zK_43, zLn_43, zK_44, zLn_44, zK_45, zLn_45, zK_46, zLn_46, zK_47, zfv_47_0, zfv_47_1, zfv_47_2, zfv_47_3, zfv_47_4, zfv_47_5, zfv_47_6, zK_48, zLn_48, zK_49, zLn_49, zK_50, zLn_50, zK_51, zLn_51, zK_52, zLn_52, zK_53, zLn_53, zK_54, zLn_54, zK_55, zLn_55, zK_56, zLn_56, zK_57, zLn_57, zK_58, zLn_58, zK_59, zLn_59, zK_60, zfv_60_0, zfv_60_1, zfv_60_2, zK_61, zLn_61, zK_62, zfv_62_0, zK_63, zLn_63, zK_64, zfv_64_0, zfv_64_1, zfv_64_2, zfv_64_3, zfv_64_4, zfv_64_5, zfv_64_6, zfv_64_7, zfv_64_8, zfv_64_9, zfv_64_10, zfv_64_11, zfv_64_12, zfv_64_13, zfv_64_14, zfv_64_15, zfv_64_16, zfv_64_17, zfv_64_18, zfv_64_19, zfv_64_20, zfv_64_21, zfv_64_22, zfv_64_23, zfv_64_24, zfv_64_25, zfv_64_26, zfv_64_27, zK_65, zLn_65, zK_66, zLn_66, zK_67, zLn_67, zK_68, zLn_68, zK_69, zLn_69, zK_70, zLn_70, zK_71, zLn_71, zK_72, zLn_72, zK_73, zLn_73, zK_74, zLn_74, zK_75, zLn_75, zK_76, zLn_76, zK_77, zLn_77, zK_78, zLn_78, zK_79, zLn_79, zK_80, zLn_80, zK_81, zLn_81]
  suffices H : ∀ ν σ1 k, WfN τ ν → RNc 24 ν σ1 → xO 24 31 σ σ1 → Y30 (d + 2) (fun r σ' => r = some (.int (nI (k + (wkU τ p (τ.2 1 p - 0) ν).2))) ∧ RNc 24 (wkU τ p (τ.2 1 p - 0) ν).1 σ' ∧ xO 24 31 σ σ') 5 [(0, .ref 24), (1, .ref 4), (2, .int (nI p)), (3, .int (nI k)), (4, .int (nI 0))] [] σ1 by
    have h0 := H ν σ 0 hW hN (xO.rf σ)
    rw [Nat.zero_add] at h0
    exact h0
  refine yup (P := fun i => ∀ ν σ1 k, WfN τ ν → RNc 24 ν σ1 → xO 24 31 σ σ1 → Y30 (d + 2) (fun r σ' => r = some (.int (nI (k + (wkU τ p (τ.2 1 p - i) ν).2))) ∧ RNc 24 (wkU τ p (τ.2 1 p - i) ν).1 σ' ∧ xO 24 31 σ σ') 5 [(0, .ref 24), (1, .ref 4), (2, .int (nI p)), (3, .int (nI k)), (4, .int (nI i))] [] σ1) 0 (τ.2 1 p) (Nat.zero_le _) ?_ ?_
  · intro ν σ1 k hW hN hO
    have e6 : σ1.1 6 p = nI (τ.2 1 p) := by rw [hO.1 6 (Or.inl (by decide))]; exact e6
    rw [g30_5]
    simp only [g30_7, g30_8, g30_11, g30_12, g30_13, g30_16, g30_17, g30_18, g30_19, g30_85, g30_86, zldI, zldJ, zldR, zlk, zs1, zc1, zs2, zc2, Value.category, zdup_i, zdup_r, zdup2_i, zdup2_l, zrcv, zrm, ↓reduceIte, Nat.reduceAdd, Nat.reduceEqDiff, Nat.reduceLeDiff, Nat.reduceMul, and_false, false_and, and_true, true_and, List.map_cons, List.map_nil, List.sum_cons, List.sum_nil, Option.toList_some, Option.toList_none, List.cons_append, List.nil_append, or_true, true_or, or_false, false_or, Nat.add_zero, Nat.zero_add, Nat.one_ne_zero, Nat.zero_ne_one, not_false_eq_true, not_true_eq_false, implies_true, forall_const, exists_eq_left, reduceCtorEq, false_implies, true_implies, wA1, wA2, wI1, wI2, wJ1, wJ2, wJ3, wR1, wR2, wR31, wR32, zK_0, zfv_0_0, zfv_0_1, zfv_0_2, zfv_0_3, zfv_0_4, zfv_0_5, zfv_0_6, zfv_0_7, zfv_0_8, zfv_0_9, zK_1, zfv_1_0, zfv_1_1, zfv_1_2, zfv_1_3, zfv_1_4, zfv_1_5, zfv_1_6, zK_2, zLn_2, zK_3, zLn_3, zK_4, zfv_4_0, zfv_4_1, zfv_4_2, zfv_4_3, zfv_4_4, zfv_4_5, zfv_4_6, zfv_4_7, zfv_4_8, zfv_4_9, zfv_4_10, zfv_4_11, zK_5, zLn_5, zK_6, zLn_6, zK_7, zLn_7, zK_8, zLn_8, zK_9, zLn_9, zK_10, zLn_10, zK_11, zLn_11, zK_12, zLn_12, zK_13, zLn_13, zK_14, zfv_14_0, zfv_14_1, zfv_14_2, zfv_14_3, zfv_14_4, zfv_14_5, zfv_14_6, zfv_14_7, zfv_14_8, zfv_14_9, zfv_14_10, zfv_14_11, zK_15, zLn_15, zK_16, zLn_16, zK_17, zLn_17, zK_18, zLn_18, zK_19, zLn_19, zK_20, zLn_20, zK_21, zLn_21, zK_22, zLn_22, zK_23, zLn_23, zK_24, zfv_24_0, zfv_24_1, zfv_24_2, zfv_24_3, zfv_24_4, zfv_24_5, zfv_24_6, zfv_24_7, zfv_24_8, zfv_24_9, zK_25, zLn_25, zK_26, zLn_26, zK_27, zLn_27, zK_28, zLn_28, zK_29, zLn_29, zK_30, zLn_30, zK_31, zfv_31_0, zfv_31_1, zfv_31_2, zfv_31_3, zfv_31_4, zfv_31_5, zfv_31_6, zfv_31_7, zfv_31_8, zfv_31_9, zK_32, zLn_32, zK_33, zLn_33, zK_34, zLn_34, zK_35, zLn_35, zK_36, zLn_36, zK_37, zLn_37, zK_38, zfv_38_0, zfv_38_1, zfv_38_2, zfv_38_3, zfv_38_4, zfv_38_5, zfv_38_6, zfv_38_7, zfv_38_8, zfv_38_9, zK_39, zLn_39, zK_40, zLn_40, zK_41, zLn_41, zK_42, zLn_42, zK_43, zLn_43, zK_44, zLn_44, zK_45, zLn_45, zK_46, zLn_46, zK_47, zfv_47_0, zfv_47_1, zfv_47_2, zfv_47_3, zfv_47_4, zfv_47_5, zfv_47_6, zK_48, zLn_48, zK_49, zLn_49, zK_50, zLn_50, zK_51, zLn_51, zK_52, zLn_52, zK_53, zLn_53, zK_54, zLn_54, zK_55, zLn_55, zK_56, zLn_56, zK_57, zLn_57, zK_58, zLn_58, zK_59, zLn_59, zK_60, zfv_60_0, zfv_60_1, zfv_60_2, zK_61, zLn_61, zK_62, zfv_62_0, zK_63, zLn_63, zK_64, zfv_64_0, zfv_64_1, zfv_64_2, zfv_64_3, zfv_64_4, zfv_64_5, zfv_64_6, zfv_64_7, zfv_64_8, zfv_64_9, zfv_64_10, zfv_64_11, zfv_64_12, zfv_64_13, zfv_64_14, zfv_64_15, zfv_64_16, zfv_64_17, zfv_64_18, zfv_64_19, zfv_64_20, zfv_64_21, zfv_64_22, zfv_64_23, zfv_64_24, zfv_64_25, zfv_64_26, zfv_64_27, zK_65, zLn_65, zK_66, zLn_66, zK_67, zLn_67, zK_68, zLn_68, zK_69, zLn_69, zK_70, zLn_70, zK_71, zLn_71, zK_72, zLn_72, zK_73, zLn_73, zK_74, zLn_74, zK_75, zLn_75, zK_76, zLn_76, zK_77, zLn_77, zK_78, zLn_78, zK_79, zLn_79, zK_80, zLn_80, zK_81, zLn_81, nI_clamp (show p < 2 ^ 31 by omega), e6]
    refine ⟨vp_in_nI hp4 (by decide), fun _ => ?_, fun h => absurd (nI_le (Nat.le_refl _) (by omega)) h⟩
    rw [Nat.sub_self, wkU_0]
    exact ⟨rfl, hN, hO⟩
  · intro i _ hi ih ν σ1 k hW hN hO
    have e6 : σ1.1 6 p = nI (τ.2 1 p) := by rw [hO.1 6 (Or.inl (by decide))]; exact e6
    have hR1 : RTc 4 τ σ1 := xO_RT hR hO
    obtain ⟨u, hu⟩ : ∃ u, τ.2 1 p - i = u + 1 := ⟨τ.2 1 p - i - 1, by omega⟩
    have hu2 : τ.2 1 p - (i + 1) = u := by omega
    rw [hu2] at ih
    rw [hu]
    rw [g30_5]
    simp only [g30_7, g30_8, g30_11, g30_12, g30_13, g30_16, g30_17, g30_18, g30_19, g30_85, g30_86, zldI, zldJ, zldR, zlk, zs1, zc1, zs2, zc2, Value.category, zdup_i, zdup_r, zdup2_i, zdup2_l, zrcv, zrm, ↓reduceIte, Nat.reduceAdd, Nat.reduceEqDiff, Nat.reduceLeDiff, Nat.reduceMul, and_false, false_and, and_true, true_and, List.map_cons, List.map_nil, List.sum_cons, List.sum_nil, Option.toList_some, Option.toList_none, List.cons_append, List.nil_append, or_true, true_or, or_false, false_or, Nat.add_zero, Nat.zero_add, Nat.one_ne_zero, Nat.zero_ne_one, not_false_eq_true, not_true_eq_false, implies_true, forall_const, exists_eq_left, reduceCtorEq, false_implies, true_implies, wA1, wA2, wI1, wI2, wJ1, wJ2, wJ3, wR1, wR2, wR31, wR32, zK_0, zfv_0_0, zfv_0_1, zfv_0_2, zfv_0_3, zfv_0_4, zfv_0_5, zfv_0_6, zfv_0_7, zfv_0_8, zfv_0_9, zK_1, zfv_1_0, zfv_1_1, zfv_1_2, zfv_1_3, zfv_1_4, zfv_1_5, zfv_1_6, zK_2, zLn_2, zK_3, zLn_3, zK_4, zfv_4_0, zfv_4_1, zfv_4_2, zfv_4_3, zfv_4_4, zfv_4_5, zfv_4_6, zfv_4_7, zfv_4_8, zfv_4_9, zfv_4_10, zfv_4_11, zK_5, zLn_5, zK_6, zLn_6, zK_7, zLn_7, zK_8, zLn_8, zK_9, zLn_9, zK_10, zLn_10, zK_11, zLn_11, zK_12, zLn_12, zK_13, zLn_13, zK_14, zfv_14_0, zfv_14_1, zfv_14_2, zfv_14_3, zfv_14_4, zfv_14_5, zfv_14_6, zfv_14_7, zfv_14_8, zfv_14_9, zfv_14_10, zfv_14_11, zK_15, zLn_15, zK_16, zLn_16, zK_17, zLn_17, zK_18, zLn_18, zK_19, zLn_19, zK_20, zLn_20, zK_21, zLn_21, zK_22, zLn_22, zK_23, zLn_23, zK_24, zfv_24_0, zfv_24_1, zfv_24_2, zfv_24_3, zfv_24_4, zfv_24_5, zfv_24_6, zfv_24_7, zfv_24_8, zfv_24_9, zK_25, zLn_25, zK_26, zLn_26, zK_27, zLn_27, zK_28, zLn_28, zK_29, zLn_29, zK_30, zLn_30, zK_31, zfv_31_0, zfv_31_1, zfv_31_2, zfv_31_3, zfv_31_4, zfv_31_5, zfv_31_6, zfv_31_7, zfv_31_8, zfv_31_9, zK_32, zLn_32, zK_33, zLn_33, zK_34, zLn_34, zK_35, zLn_35, zK_36, zLn_36, zK_37, zLn_37, zK_38, zfv_38_0, zfv_38_1, zfv_38_2, zfv_38_3, zfv_38_4, zfv_38_5, zfv_38_6, zfv_38_7, zfv_38_8, zfv_38_9, zK_39, zLn_39, zK_40, zLn_40, zK_41, zLn_41, zK_42, zLn_42, zK_43, zLn_43, zK_44, zLn_44, zK_45, zLn_45, zK_46, zLn_46, zK_47, zfv_47_0, zfv_47_1, zfv_47_2, zfv_47_3, zfv_47_4, zfv_47_5, zfv_47_6, zK_48, zLn_48, zK_49, zLn_49, zK_50, zLn_50, zK_51, zLn_51, zK_52, zLn_52, zK_53, zLn_53, zK_54, zLn_54, zK_55, zLn_55, zK_56, zLn_56, zK_57, zLn_57, zK_58, zLn_58, zK_59, zLn_59, zK_60, zfv_60_0, zfv_60_1, zfv_60_2, zK_61, zLn_61, zK_62, zfv_62_0, zK_63, zLn_63, zK_64, zfv_64_0, zfv_64_1, zfv_64_2, zfv_64_3, zfv_64_4, zfv_64_5, zfv_64_6, zfv_64_7, zfv_64_8, zfv_64_9, zfv_64_10, zfv_64_11, zfv_64_12, zfv_64_13, zfv_64_14, zfv_64_15, zfv_64_16, zfv_64_17, zfv_64_18, zfv_64_19, zfv_64_20, zfv_64_21, zfv_64_22, zfv_64_23, zfv_64_24, zfv_64_25, zfv_64_26, zfv_64_27, zK_65, zLn_65, zK_66, zLn_66, zK_67, zLn_67, zK_68, zLn_68, zK_69, zLn_69, zK_70, zLn_70, zK_71, zLn_71, zK_72, zLn_72, zK_73, zLn_73, zK_74, zLn_74, zK_75, zLn_75, zK_76, zLn_76, zK_77, zLn_77, zK_78, zLn_78, zK_79, zLn_79, zK_80, zLn_80, zK_81, zLn_81, nI_clamp (show p < 2 ^ 31 by omega), e6]
    refine ⟨vp_in_nI hp4 (by decide), fun h => absurd h (nI_ge hi (by omega)), fun _ => ?_⟩
    refine ycallp (c_firstW _ hT hR1 hW hN hp) ?_
    simp only [Option.toList_some, List.cons_append, List.nil_append]
    rcases hf : (nS ν p).find? (fr τ ν) with _ | a
    · have ev : ffv (fr τ ν) (-1) (nS ν p) = -1 := by unfold ffv; rw [hf]
      rw [ev, wkU_n hf]
      rw [g30_22]
      simp only [g30_24, g30_26, g30_27, g30_30, g30_31, g30_32, g30_33, g30_36, g30_38, g30_39, g30_40, g30_41, g30_42, g30_43, g30_44, g30_47, g30_49, g30_50, g30_53, g30_54, g30_56, g30_57, g30_79, g30_82, zldI, zldJ, zldR, zlk, zs1, zc1, zs2, zc2, Value.category, zdup_i, zdup_r, zdup2_i, zdup2_l, zrcv, zrm, ↓reduceIte, Nat.reduceAdd, Nat.reduceEqDiff, Nat.reduceLeDiff, Nat.reduceMul, and_false, false_and, and_true, true_and, List.map_cons, List.map_nil, List.sum_cons, List.sum_nil, Option.toList_some, Option.toList_none, List.cons_append, List.nil_append, or_true, true_or, or_false, false_or, Nat.add_zero, Nat.zero_add, Nat.one_ne_zero, Nat.zero_ne_one, not_false_eq_true, not_true_eq_false, implies_true, forall_const, exists_eq_left, reduceCtorEq, false_implies, true_implies, wA1, wA2, wI1, wI2, wJ1, wJ2, wJ3, wR1, wR2, wR31, wR32, zK_0, zfv_0_0, zfv_0_1, zfv_0_2, zfv_0_3, zfv_0_4, zfv_0_5, zfv_0_6, zfv_0_7, zfv_0_8, zfv_0_9, zK_1, zfv_1_0, zfv_1_1, zfv_1_2, zfv_1_3, zfv_1_4, zfv_1_5, zfv_1_6, zK_2, zLn_2, zK_3, zLn_3, zK_4, zfv_4_0, zfv_4_1, zfv_4_2, zfv_4_3, zfv_4_4, zfv_4_5, zfv_4_6, zfv_4_7, zfv_4_8, zfv_4_9, zfv_4_10, zfv_4_11, zK_5, zLn_5, zK_6, zLn_6, zK_7, zLn_7, zK_8, zLn_8, zK_9, zLn_9, zK_10, zLn_10, zK_11, zLn_11, zK_12, zLn_12, zK_13, zLn_13, zK_14, zfv_14_0, zfv_14_1, zfv_14_2, zfv_14_3, zfv_14_4, zfv_14_5, zfv_14_6, zfv_14_7, zfv_14_8, zfv_14_9, zfv_14_10, zfv_14_11, zK_15, zLn_15, zK_16, zLn_16, zK_17, zLn_17, zK_18, zLn_18, zK_19, zLn_19, zK_20, zLn_20, zK_21, zLn_21, zK_22, zLn_22, zK_23, zLn_23, zK_24, zfv_24_0, zfv_24_1, zfv_24_2, zfv_24_3, zfv_24_4, zfv_24_5, zfv_24_6, zfv_24_7, zfv_24_8, zfv_24_9, zK_25, zLn_25, zK_26, zLn_26, zK_27, zLn_27, zK_28, zLn_28, zK_29, zLn_29, zK_30, zLn_30, zK_31, zfv_31_0, zfv_31_1, zfv_31_2, zfv_31_3, zfv_31_4, zfv_31_5, zfv_31_6, zfv_31_7, zfv_31_8, zfv_31_9, zK_32, zLn_32, zK_33, zLn_33, zK_34, zLn_34, zK_35, zLn_35, zK_36, zLn_36, zK_37, zLn_37, zK_38, zfv_38_0, zfv_38_1, zfv_38_2, zfv_38_3, zfv_38_4, zfv_38_5, zfv_38_6, zfv_38_7, zfv_38_8, zfv_38_9, zK_39, zLn_39, zK_40, zLn_40, zK_41, zLn_41, zK_42, zLn_42, zK_43, zLn_43, zK_44, zLn_44, zK_45, zLn_45, zK_46, zLn_46, zK_47, zfv_47_0, zfv_47_1, zfv_47_2, zfv_47_3, zfv_47_4, zfv_47_5, zfv_47_6, zK_48, zLn_48, zK_49, zLn_49, zK_50, zLn_50, zK_51, zLn_51, zK_52, zLn_52, zK_53, zLn_53, zK_54, zLn_54, zK_55, zLn_55, zK_56, zLn_56, zK_57, zLn_57, zK_58, zLn_58, zK_59, zLn_59, zK_60, zfv_60_0, zfv_60_1, zfv_60_2, zK_61, zLn_61, zK_62, zfv_62_0, zK_63, zLn_63, zK_64, zfv_64_0, zfv_64_1, zfv_64_2, zfv_64_3, zfv_64_4, zfv_64_5, zfv_64_6, zfv_64_7, zfv_64_8, zfv_64_9, zfv_64_10, zfv_64_11, zfv_64_12, zfv_64_13, zfv_64_14, zfv_64_15, zfv_64_16, zfv_64_17, zfv_64_18, zfv_64_19, zfv_64_20, zfv_64_21, zfv_64_22, zfv_64_23, zfv_64_24, zfv_64_25, zfv_64_26, zfv_64_27, zK_65, zLn_65, zK_66, zLn_66, zK_67, zLn_67, zK_68, zLn_68, zK_69, zLn_69, zK_70, zLn_70, zK_71, zLn_71, zK_72, zLn_72, zK_73, zLn_73, zK_74, zLn_74, zK_75, zLn_75, zK_76, zLn_76, zK_77, zLn_77, zK_78, zLn_78, zK_79, zLn_79, zK_80, zLn_80, zK_81, zLn_81]
      exact ⟨hN, hO⟩
    · have ev : ffv (fr τ ν) (-1) (nS ν p) = nI a := by unfold ffv; rw [hf]
      have hm := fd_mem hf
      have haA : a < tA τ := (hW.2.2.2.2.1 p).2.2 a hm
      have hfa : nF ν a = 1 := (hW.2.2.1 a).mpr ⟨p, hm⟩
      have hm9 := hW.2.2.2.2.2.2.2 a hfa
      obtain ⟨m, hm2⟩ : ∃ m, nM ν a = m + 1 := ⟨nM ν a - 1, by omega⟩
      have e26 : σ1.1 26 a = nI (m + 1) := by
        have := (hN.2.1 a (by omega)).2.1
        rw [if_pos hfa, hm2] at this
        exact this
      have hN2 : RNc 24 (nLef ν a m) (zwI σ1 26 a (nI m)) := RNc_lef hN hfa
      have hO2 : xO 24 31 σ (zwI σ1 26 a (nI m)) := hO.wI (by decide) (by decide)
      have hwf := Wf_wk1 hW hm
      rw [ev, wkU_s hf]
      rw [g30_22]
      simp only [g30_24, g30_26, g30_27, g30_30, g30_31, g30_32, g30_33, g30_36, g30_38, g30_39, g30_40, g30_41, g30_42, g30_43, g30_44, g30_47, g30_49, g30_50, g30_53, g30_54, g30_56, g30_57, g30_79, g30_82, zldI, zldJ, zldR, zlk, zs1, zc1, zs2, zc2, Value.category, zdup_i, zdup_r, zdup2_i, zdup2_l, zrcv, zrm, ↓reduceIte, Nat.reduceAdd, Nat.reduceEqDiff, Nat.reduceLeDiff, Nat.reduceMul, and_false, false_and, and_true, true_and, List.map_cons, List.map_nil, List.sum_cons, List.sum_nil, Option.toList_some, Option.toList_none, List.cons_append, List.nil_append, or_true, true_or, or_false, false_or, Nat.add_zero, Nat.zero_add, Nat.one_ne_zero, Nat.zero_ne_one, not_false_eq_true, not_true_eq_false, implies_true, forall_const, exists_eq_left, reduceCtorEq, false_implies, true_implies, wA1, wA2, wI1, wI2, wJ1, wJ2, wJ3, wR1, wR2, wR31, wR32, zK_0, zfv_0_0, zfv_0_1, zfv_0_2, zfv_0_3, zfv_0_4, zfv_0_5, zfv_0_6, zfv_0_7, zfv_0_8, zfv_0_9, zK_1, zfv_1_0, zfv_1_1, zfv_1_2, zfv_1_3, zfv_1_4, zfv_1_5, zfv_1_6, zK_2, zLn_2, zK_3, zLn_3, zK_4, zfv_4_0, zfv_4_1, zfv_4_2, zfv_4_3, zfv_4_4, zfv_4_5, zfv_4_6, zfv_4_7, zfv_4_8, zfv_4_9, zfv_4_10, zfv_4_11, zK_5, zLn_5, zK_6, zLn_6, zK_7, zLn_7, zK_8, zLn_8, zK_9, zLn_9, zK_10, zLn_10, zK_11, zLn_11, zK_12, zLn_12, zK_13, zLn_13, zK_14, zfv_14_0, zfv_14_1, zfv_14_2, zfv_14_3, zfv_14_4, zfv_14_5, zfv_14_6, zfv_14_7, zfv_14_8, zfv_14_9, zfv_14_10, zfv_14_11, zK_15, zLn_15, zK_16, zLn_16, zK_17, zLn_17, zK_18, zLn_18, zK_19, zLn_19, zK_20, zLn_20, zK_21, zLn_21, zK_22, zLn_22, zK_23, zLn_23, zK_24, zfv_24_0, zfv_24_1, zfv_24_2, zfv_24_3, zfv_24_4, zfv_24_5, zfv_24_6, zfv_24_7, zfv_24_8, zfv_24_9, zK_25, zLn_25, zK_26, zLn_26, zK_27, zLn_27, zK_28, zLn_28, zK_29, zLn_29, zK_30, zLn_30, zK_31, zfv_31_0, zfv_31_1, zfv_31_2, zfv_31_3, zfv_31_4, zfv_31_5, zfv_31_6, zfv_31_7, zfv_31_8, zfv_31_9, zK_32, zLn_32, zK_33, zLn_33, zK_34, zLn_34, zK_35, zLn_35, zK_36, zLn_36, zK_37, zLn_37, zK_38, zfv_38_0, zfv_38_1, zfv_38_2, zfv_38_3, zfv_38_4, zfv_38_5, zfv_38_6, zfv_38_7, zfv_38_8, zfv_38_9, zK_39, zLn_39, zK_40, zLn_40, zK_41, zLn_41, zK_42, zLn_42, zK_43, zLn_43, zK_44, zLn_44, zK_45, zLn_45, zK_46, zLn_46, zK_47, zfv_47_0, zfv_47_1, zfv_47_2, zfv_47_3, zfv_47_4, zfv_47_5, zfv_47_6, zK_48, zLn_48, zK_49, zLn_49, zK_50, zLn_50, zK_51, zLn_51, zK_52, zLn_52, zK_53, zLn_53, zK_54, zLn_54, zK_55, zLn_55, zK_56, zLn_56, zK_57, zLn_57, zK_58, zLn_58, zK_59, zLn_59, zK_60, zfv_60_0, zfv_60_1, zfv_60_2, zK_61, zLn_61, zK_62, zfv_62_0, zK_63, zLn_63, zK_64, zfv_64_0, zfv_64_1, zfv_64_2, zfv_64_3, zfv_64_4, zfv_64_5, zfv_64_6, zfv_64_7, zfv_64_8, zfv_64_9, zfv_64_10, zfv_64_11, zfv_64_12, zfv_64_13, zfv_64_14, zfv_64_15, zfv_64_16, zfv_64_17, zfv_64_18, zfv_64_19, zfv_64_20, zfv_64_21, zfv_64_22, zfv_64_23, zfv_64_24, zfv_64_25, zfv_64_26, zfv_64_27, zK_65, zLn_65, zK_66, zLn_66, zK_67, zLn_67, zK_68, zLn_68, zK_69, zLn_69, zK_70, zLn_70, zK_71, zLn_71, zK_72, zLn_72, zK_73, zLn_73, zK_74, zLn_74, zK_75, zLn_75, zK_76, zLn_76, zK_77, zLn_77, zK_78, zLn_78, zK_79, zLn_79, zK_80, zLn_80, zK_81, zLn_81, nI_clamp (show a < 2 ^ 31 by omega), e26, nI_pred, pk_us, nI_1]
      refine ⟨fun _ => ?_, fun h => absurd h (fun z => by rw [z] at ev; exact absurd (congrArg Int32.toInt z) (by rw [nI_toInt (show a < 2 ^ 31 by omega)]; show ¬ (a : Int) = -1; omega))⟩
      repeat (first | refine ⟨vp_in_nI (by omega) (by decide), ?_⟩ | refine ⟨(by unfold vp_in; decide), ?_⟩)
      refine ⟨fun h => ?_, fun h => ?_⟩
      · have hm0 : ¬ nM ν a = 1 := fun z => h (by rw [show m = 0 by omega]; rfl)
        rw [if_neg hm0, Nat.zero_add]
        have hw1 : wk1 τ p a ν = nLef ν a m := by
          unfold wk1
          rw [if_neg hm0, hm2]
          rfl
        rw [hw1] at hwf ⊢
        refine yX_le ?_ (ih _ _ k hwf hN2 hO2)
        repeat (first | exact lvle_nil _ | refine lvle_cons rfl ?_)
      · have hm0 : m = 0 := (nI_eq (b := 0) (by omega) (by decide)).mp h
        subst hm0
        rw [if_pos hm2]
        refine ycall (c_unpin0 _ (f := 2) hT hW hN2 (idx_at hm) (by decide)) ?_
        rintro _ σ2 ⟨rfl, hN3, hO3⟩
        simp only [Option.toList_none, List.nil_append]
        have hO4 := hO2.trans hO3
        have e11 : σ2.1 11 a = nI (τ.2 6 a) := by rw [hO4.1 11 (Or.inl (by decide))]; exact (hR.2.2.1 a haA).2.2.2.1
        have ew : σ2.1 24 1 = nW ν := hN3.1.2.1
        have hN4 := RNc_win (x := nI (τ.2 6 a)) hN3
        have hO5 : xO 24 31 σ (zwI σ2 24 1 (nW ν + nI (τ.2 6 a))) := hO4.wI (by decide) (by decide)
        have hw1 : wk1 τ p a ν = nWin (nUnpin (nLef ν a 0) p ((nS ν p).idxOf a) a 2) (nI (τ.2 6 a)) := by
          unfold wk1
          rw [if_pos hm2]
        rw [hw1] at hwf ⊢
        rw [g30_60]
        simp only [g30_61, g30_62, g30_65, g30_66, g30_69, g30_71, g30_72, g30_73, g30_76, g30_79, g30_82, zldI, zldJ, zldR, zlk, zs1, zc1, zs2, zc2, Value.category, zdup_i, zdup_r, zdup2_i, zdup2_l, zrcv, zrm, ↓reduceIte, Nat.reduceAdd, Nat.reduceEqDiff, Nat.reduceLeDiff, Nat.reduceMul, and_false, false_and, and_true, true_and, List.map_cons, List.map_nil, List.sum_cons, List.sum_nil, Option.toList_some, Option.toList_none, List.cons_append, List.nil_append, or_true, true_or, or_false, false_or, Nat.add_zero, Nat.zero_add, Nat.one_ne_zero, Nat.zero_ne_one, not_false_eq_true, not_true_eq_false, implies_true, forall_const, exists_eq_left, reduceCtorEq, false_implies, true_implies, wA1, wA2, wI1, wI2, wJ1, wJ2, wJ3, wR1, wR2, wR31, wR32, zK_0, zfv_0_0, zfv_0_1, zfv_0_2, zfv_0_3, zfv_0_4, zfv_0_5, zfv_0_6, zfv_0_7, zfv_0_8, zfv_0_9, zK_1, zfv_1_0, zfv_1_1, zfv_1_2, zfv_1_3, zfv_1_4, zfv_1_5, zfv_1_6, zK_2, zLn_2, zK_3, zLn_3, zK_4, zfv_4_0, zfv_4_1, zfv_4_2, zfv_4_3, zfv_4_4, zfv_4_5, zfv_4_6, zfv_4_7, zfv_4_8, zfv_4_9, zfv_4_10, zfv_4_11, zK_5, zLn_5, zK_6, zLn_6, zK_7, zLn_7, zK_8, zLn_8, zK_9, zLn_9, zK_10, zLn_10, zK_11, zLn_11, zK_12, zLn_12, zK_13, zLn_13, zK_14, zfv_14_0, zfv_14_1, zfv_14_2, zfv_14_3, zfv_14_4, zfv_14_5, zfv_14_6, zfv_14_7, zfv_14_8, zfv_14_9, zfv_14_10, zfv_14_11, zK_15, zLn_15, zK_16, zLn_16, zK_17, zLn_17, zK_18, zLn_18, zK_19, zLn_19, zK_20, zLn_20, zK_21, zLn_21, zK_22, zLn_22, zK_23, zLn_23, zK_24, zfv_24_0, zfv_24_1, zfv_24_2, zfv_24_3, zfv_24_4, zfv_24_5, zfv_24_6, zfv_24_7, zfv_24_8, zfv_24_9, zK_25, zLn_25, zK_26, zLn_26, zK_27, zLn_27, zK_28, zLn_28, zK_29, zLn_29, zK_30, zLn_30, zK_31, zfv_31_0, zfv_31_1, zfv_31_2, zfv_31_3, zfv_31_4, zfv_31_5, zfv_31_6, zfv_31_7, zfv_31_8, zfv_31_9, zK_32, zLn_32, zK_33, zLn_33, zK_34, zLn_34, zK_35, zLn_35, zK_36, zLn_36, zK_37, zLn_37, zK_38, zfv_38_0, zfv_38_1, zfv_38_2, zfv_38_3, zfv_38_4, zfv_38_5, zfv_38_6, zfv_38_7, zfv_38_8, zfv_38_9, zK_39, zLn_39, zK_40, zLn_40, zK_41, zLn_41, zK_42, zLn_42, zK_43, zLn_43, zK_44, zLn_44, zK_45, zLn_45, zK_46, zLn_46, zK_47, zfv_47_0, zfv_47_1, zfv_47_2, zfv_47_3, zfv_47_4, zfv_47_5, zfv_47_6, zK_48, zLn_48, zK_49, zLn_49, zK_50, zLn_50, zK_51, zLn_51, zK_52, zLn_52, zK_53, zLn_53, zK_54, zLn_54, zK_55, zLn_55, zK_56, zLn_56, zK_57, zLn_57, zK_58, zLn_58, zK_59, zLn_59, zK_60, zfv_60_0, zfv_60_1, zfv_60_2, zK_61, zLn_61, zK_62, zfv_62_0, zK_63, zLn_63, zK_64, zfv_64_0, zfv_64_1, zfv_64_2, zfv_64_3, zfv_64_4, zfv_64_5, zfv_64_6, zfv_64_7, zfv_64_8, zfv_64_9, zfv_64_10, zfv_64_11, zfv_64_12, zfv_64_13, zfv_64_14, zfv_64_15, zfv_64_16, zfv_64_17, zfv_64_18, zfv_64_19, zfv_64_20, zfv_64_21, zfv_64_22, zfv_64_23, zfv_64_24, zfv_64_25, zfv_64_26, zfv_64_27, zK_65, zLn_65, zK_66, zLn_66, zK_67, zLn_67, zK_68, zLn_68, zK_69, zLn_69, zK_70, zLn_70, zK_71, zLn_71, zK_72, zLn_72, zK_73, zLn_73, zK_74, zLn_74, zK_75, zLn_75, zK_76, zLn_76, zK_77, zLn_77, zK_78, zLn_78, zK_79, zLn_79, zK_80, zLn_80, zK_81, zLn_81, nI_clamp (show a < 2 ^ 31 by omega), e11, ew, nI_1]
        refine ⟨vp_in_nI (by omega) (by decide), ?_⟩
        rw [← Nat.add_assoc]
        refine yX_le ?_ (ih _ _ (k + 1) hwf hN4 hO5)
        repeat (first | exact lvle_nil _ | refine lvle_cons rfl ?_)
end
