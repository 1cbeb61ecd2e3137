/-! ===== a great promise: what it is ===== -/
def gsp (τ : aT) (ν : aN) (D p : Nat) : Nat := if (nS ν p).length < τ.2 0 p then τ.2 1 p * D - lsum ν (nS ν p) else 0
abbrev aG : Type := Nat × Nat × Nat
def gst (τ : aT) (ν : aN) (D p : Nat) (s : aG) : aG := (s.1 - min s.1 (gsp τ ν D p), s.2.1 + min s.1 (gsp τ ν D p) * τ.2 2 p, if 0 < min s.1 (gsp τ ν D p) then s.2.2 ||| 2 ^ p else s.2.2)
def gMF (τ : aT) (ν : aN) (D : Nat) : Nat → Nat → aG → aG
  | 0, _, s => s
  | n + 1, k, s => gMF τ ν D n (k + 1) (if τ.2 2 (k % tP τ) = k / tP τ then gst τ ν D (k % tP τ) s else s)
def gky (τ : aT) (q : Nat) : Nat := τ.2 2 q * tP τ + q
section
variable {τ : aT} {ν : aN} {σ : zSt} {D : Nat}
theorem gMF_s (n k : Nat) (s : aG) : gMF τ ν D (n + 1) k s = gMF τ ν D n (k + 1) (if τ.2 2 (k % tP τ) = k / tP τ then gst τ ν D (k % tP τ) s else s) := rfl
theorem gst_0 {p : Nat} {s : aG} (h : s.1 = 0) : gst τ ν D p s = s := by
  obtain ⟨a, b, c⟩ := s
  have h : a = 0 := h
  subst h
  unfold gst
  simp
theorem gMF_0 : ∀ (n k : Nat) {s : aG}, s.1 = 0 → gMF τ ν D n k s = s
  | 0, _, _, _ => rfl
  | n + 1, k, s, h => by
    rw [gMF_s]
    split
    · rw [gst_0 h]; exact gMF_0 n (k + 1) h
    · exact gMF_0 n (k + 1) h
theorem gMF_skip : ∀ (j n k : Nat) (s : aG), (∀ k', k ≤ k' → k' < k + j → τ.2 2 (k' % tP τ) ≠ k' / tP τ) → gMF τ ν D (n + j) k s = gMF τ ν D n (k + j) s
  | 0, _, _, _, _ => rfl
  | j + 1, n, k, s, h => by
    rw [← Nat.add_assoc, gMF_s, if_neg (h k (Nat.le_refl _) (by omega)), gMF_skip j n (k + 1) s (fun k' h1 h2 => h k' (by omega) (by omega))]
    congr 1
    omega
theorem gky_mod {q : Nat} (h : q < tP τ) : gky τ q % tP τ = q ∧ gky τ q / tP τ = τ.2 2 q := by
  unfold gky
  have hP : 0 < tP τ := by omega
  constructor
  · rw [Nat.mul_comm, Nat.mul_add_mod, Nat.mod_eq_of_lt h]
  · rw [Nat.mul_comm, Nat.mul_add_div hP, Nat.div_eq_of_lt h, Nat.add_zero]
theorem gky_of {k : Nat} (h : τ.2 2 (k % tP τ) = k / tP τ) : gky τ (k % tP τ) = k := by
  unfold gky
  rw [h, Nat.mul_comm]
  exact Nat.div_add_mod k (tP τ)
theorem gst_le {p : Nat} {s : aG} : (gst τ ν D p s).1 ≤ s.1 := Nat.sub_le _ _
/-- the one who is cheapest is next -/
theorem gMF_next (hT : WfT τ) {K q : Nat} (s : aG) (hK : K ≤ gky τ q) (hq : q < tP τ) (hmin : ∀ q', q' < tP τ → K ≤ gky τ q' → gky τ q ≤ gky τ q') : gMF τ ν D (10 * tP τ - K) K s = gMF τ ν D (10 * tP τ - (gky τ q + 1)) (gky τ q + 1) (gst τ ν D q s) := by
  have hpr := (hT.2.2.2.1 q hq).2.2
  have hlt : gky τ q < 10 * tP τ := by
    unfold gky
    have : τ.2 2 q * tP τ ≤ 9 * tP τ := Nat.mul_le_mul_right _ hpr
    omega
  have hP : 0 < tP τ := by omega
  rw [show 10 * tP τ - K = (10 * tP τ - gky τ q) + (gky τ q - K) by omega, gMF_skip (gky τ q - K) (10 * tP τ - gky τ q) K s, show K + (gky τ q - K) = gky τ q by omega, show 10 * tP τ - gky τ q = (10 * tP τ - (gky τ q + 1)) + 1 by omega, gMF_s, (gky_mod hq).1, (gky_mod hq).2, if_pos rfl]
  intro k' h1 h2 h3
  have e := gky_of h3
  have := hmin (k' % tP τ) (Nat.mod_lt _ hP) (by omega)
  omega
theorem gMF_end {K : Nat} (s : aG) (h : ∀ q, q < tP τ → gky τ q < K) : gMF τ ν D (10 * tP τ - K) K s = s := by
  have := gMF_skip (τ := τ) (ν := ν) (D := D) (10 * tP τ - K) 0 K s (fun k' h1 h2 h3 => by
    have hP : 0 < tP τ := by omega
    have e := gky_of h3
    have := h (k' % tP τ) (Nat.mod_lt _ hP)
    omega)
  rw [Nat.zero_add] at this
  rw [this]
  rfl
theorem mx0 {a b : Nat} (ha : a < 2 ^ 30) (hb : b < 2 ^ 30) : (if (0 : Int32) < nI a - nI b then nI a - nI b else 0) = nI (a - b) := by
  rcases Nat.lt_or_ge b a with h | h
  · rw [pk_sub (by omega), if_pos (show (0 : Int32) < nI (a - b) from nI_lt (a := 0) (by omega) (by omega))]
  · rcases Nat.eq_or_lt_of_le h with e | e
    · rw [e, pk_sub (Nat.le_refl _), Nat.sub_self]
      rfl
    · rw [if_neg (fun z => absurd z (xle.mpr (Int32.le_of_lt (pk_sneg hb e)))), show a - b = 0 by omega]
      rfl
theorem mn2 {a b : Nat} (ha : a < 2 ^ 31) (hb : b < 2 ^ 31) : (if nI b < nI a then nI b else nI a) = nI (min a b) := by
  rw [Nat.min_def]
  by_cases h : a ≤ b
  · rw [if_pos h, if_neg (nI_nlt h hb)]
  · rw [if_neg h, if_pos (nI_lt (by omega) ha)]
theorem mn3 {a b : Nat} (ha : a < 2 ^ 31) (hb : b < 2 ^ 31) : (if nI a < nI b then nI a else nI b) = nI (min a b) := by
  rw [Nat.min_def]
  by_cases h : a < b
  · rw [if_pos (nI_lt h hb), if_pos (by omega)]
  · rw [if_neg (nI_nlt (by omega) ha)]
    by_cases e : a = b
    · rw [if_pos (by omega), e]
    · rw [if_neg (by omega)]
set_option maxHeartbeats 1000000 in
theorem c_spare (d : Nat) {p : Nat} (hs : σ.2.2 = (4, 14)) (hT : WfT τ) (hR : RTc 4 τ σ) (hW : WfN τ ν) (hN : RNc 24 ν σ) (hp : p < tP τ) (hD : D ≤ 10) : yC (d + 3) 84 [.ref 0, .int (nI p), .int (nI D)] σ (fun r σ' => r = some (.int (nI (gsp τ ν D p))) ∧ σ' = σ) := by
  have hp4 : p < 4 := Nat.lt_of_lt_of_le hp hT.1
  have e2 : σ.1 6 p = nI (τ.2 1 p) := (hR.2.1 p hp).2.1
  have h3 := (hT.2.2.2.1 p hp).2.1.2
  have hls := lsum_le hW hT p
  refine C84 (Nat.le_of_ble_eq_true rfl) ?_
  simp only [lv_args, Value.category]
  rw [g84_0]
  simp only [g84_1, g84_2, zldI, zldJ, zldR, zlk, zs1, zc1, zs2, zc2, Value.category, zdup_i, zdup_r, zdup2_i, zdup2_l, zrcv, zrm, ↓reduceIte, Nat.reduceAdd, Nat.reduceEqDiff, Nat.reduceLeDiff, Nat.reduceMul, and_false, false_and, and_true, true_and, List.map_cons, List.map_nil, List.sum_cons, List.sum_nil, Option.toList_some, Option.toList_none, List.cons_append, List.nil_append, or_true, true_or, or_false, false_or, Nat.add_zero, Nat.zero_add, Nat.one_ne_zero, Nat.zero_ne_one, not_false_eq_true, not_true_eq_false, implies_true, forall_const, exists_eq_left, reduceCtorEq, false_implies, true_implies, wA1, wA2, wI1, wI2, wJ1, wJ2, wJ3, wR1, wR2, wR31, wR32, zK_0, zfv_0_0, zfv_0_1, zfv_0_2, zfv_0_3, zfv_0_4, zfv_0_5, zfv_0_6, zfv_0_7, zfv_0_8, zfv_0_9, zK_1, zfv_1_0, zfv_1_1, zfv_1_2, zfv_1_3, zfv_1_4, zfv_1_5, zfv_1_6, zK_2, zLn_2, zK_3, zLn_3, zK_4, zfv_4_0, zfv_4_1, zfv_4_2, zfv_4_3, zfv_4_4, zfv_4_5, zfv_4_6, zfv_4_7, zfv_4_8, zfv_4_9, zfv_4_10, zfv_4_11, zK_5, zLn_5, zK_6, zLn_6, zK_7, zLn_7, zK_8, zLn_8, zK_9, zLn_9, zK_10, zLn_10, zK_11, zLn_11, zK_12, zLn_12, zK_13, zLn_13, zK_14, zfv_14_0, zfv_14_1, zfv_14_2, zfv_14_3, zfv_14_4, zfv_14_5, zfv_14_6, zfv_14_7, zfv_14_8, zfv_14_9, zfv_14_10, zfv_14_11, zK_15, zLn_15, zK_16, zLn_16, zK_17, zLn_17, zK_18, zLn_18, zK_19, zLn_19, zK_20, zLn_20, zK_21, zLn_21, zK_22, zLn_22, zK_23, zLn_23, zK_24, zfv_24_0, zfv_24_1, zfv_24_2, zfv_24_3, zfv_24_4, zfv_24_5, zfv_24_6, zfv_24_7, zfv_24_8, zfv_24_9, zK_25, zLn_25, zK_26, zLn_26, zK_27, zLn_27, zK_28, zLn_28, zK_29, zLn_29, zK_30, zLn_30, zK_31, zfv_31_0, zfv_31_1, zfv_31_2, zfv_31_3, zfv_31_4, zfv_31_5, zfv_31_6, zfv_31_7, zfv_31_8, zfv_31_9, zK_32, zLn_32, zK_33, zLn_33, zK_34, zLn_34, zK_35, zLn_35, zK_36, zLn_36, zK_37, zLn_37, zK_38, zfv_38_0, zfv_38_1, zfv_38_2, zfv_38_3, zfv_38_4, zfv_38_5, zfv_38_6, zfv_38_7, zfv_38_8, zfv_38_9, zK_39, zLn_39, zK_40, zLn_40, zK_41, zLn_41, zK_42, zLn_42, zK_43, zLn_43, zK_44, zLn_44, zK_45, zLn_45, zK_46, zLn_46, zK_47, zfv_47_0, zfv_47_1, zfv_47_2, zfv_47_3, zfv_47_4, zfv_47_5, zfv_47_6, zK_48, zLn_48, zK_49, zLn_49, zK_50, zLn_50, zK_51, zLn_51, zK_52, zLn_52, zK_53, zLn_53, zK_54, zLn_54, zK_55, zLn_55, zK_56, zLn_56, zK_57, zLn_57, zK_58, zLn_58, zK_59, zLn_59, zK_60, zfv_60_0, zfv_60_1, zfv_60_2, zK_61, zLn_61, zK_62, zfv_62_0, zK_63, zLn_63, zK_64, zfv_64_0, zfv_64_1, zfv_64_2, zfv_64_3, zfv_64_4, zfv_64_5, zfv_64_6, zfv_64_7, zfv_64_8, zfv_64_9, zfv_64_10, zfv_64_11, zfv_64_12, zfv_64_13, zfv_64_14, zfv_64_15, zfv_64_16, zfv_64_17, zfv_64_18, zfv_64_19, zfv_64_20, zfv_64_21, zfv_64_22, zfv_64_23, zfv_64_24, zfv_64_25, zfv_64_26, zfv_64_27, zK_65, zLn_65, zK_66, zLn_66, zK_67, zLn_67, zK_68, zLn_68, zK_69, zLn_69, zK_70, zLn_70, zK_71, zLn_71, zK_72, zLn_72, zK_73, zLn_73, zK_74, zLn_74, zK_75, zLn_75, zK_76, zLn_76, zK_77, zLn_77, zK_78, zLn_78, zK_79, zLn_79, zK_80, zLn_80, zK_81, zLn_81]
  refine ycallp (c_hasRoom _ hs hT hR hN hp (xl5 hT hW p)) ?_
  simp only [Option.toList_some, List.cons_append, List.nil_append]
  unfold gsp
  by_cases h : (nS ν p).length < τ.2 0 p
  · rw [xB_t h, if_pos h]
    rw [g84_5]
    simp only [g84_8, g84_9, g84_10, g84_11, g84_12, g84_15, g84_18, g84_19, g84_20, g84_21, g84_22, g84_23, g84_26, g84_27, zldI, zldJ, zldR, zlk, zs1, zc1, zs2, zc2, Value.category, zdup_i, zdup_r, zdup2_i, zdup2_l, zrcv, zrm, ↓reduceIte, Nat.reduceAdd, Nat.reduceEqDiff, Nat.reduceLeDiff, Nat.reduceMul, and_false, false_and, and_true, true_and, List.map_cons, List.map_nil, List.sum_cons, List.sum_nil, Option.toList_some, Option.toList_none, List.cons_append, List.nil_append, or_true, true_or, or_false, false_or, Nat.add_zero, Nat.zero_add, Nat.one_ne_zero, Nat.zero_ne_one, not_false_eq_true, not_true_eq_false, implies_true, forall_const, exists_eq_left, reduceCtorEq, false_implies, true_implies, wA1, wA2, wI1, wI2, wJ1, wJ2, wJ3, wR1, wR2, wR31, wR32, zK_0, zfv_0_0, zfv_0_1, zfv_0_2, zfv_0_3, zfv_0_4, zfv_0_5, zfv_0_6, zfv_0_7, zfv_0_8, zfv_0_9, zK_1, zfv_1_0, zfv_1_1, zfv_1_2, zfv_1_3, zfv_1_4, zfv_1_5, zfv_1_6, zK_2, zLn_2, zK_3, zLn_3, zK_4, zfv_4_0, zfv_4_1, zfv_4_2, zfv_4_3, zfv_4_4, zfv_4_5, zfv_4_6, zfv_4_7, zfv_4_8, zfv_4_9, zfv_4_10, zfv_4_11, zK_5, zLn_5, zK_6, zLn_6, zK_7, zLn_7, zK_8, zLn_8, zK_9, zLn_9, zK_10, zLn_10, zK_11, zLn_11, zK_12, zLn_12, zK_13, zLn_13, zK_14, zfv_14_0, zfv_14_1, zfv_14_2, zfv_14_3, zfv_14_4, zfv_14_5, zfv_14_6, zfv_14_7, zfv_14_8, zfv_14_9, zfv_14_10, zfv_14_11, zK_15, zLn_15, zK_16, zLn_16, zK_17, zLn_17, zK_18, zLn_18, zK_19, zLn_19, zK_20, zLn_20, zK_21, zLn_21, zK_22, zLn_22, zK_23, zLn_23, zK_24, zfv_24_0, zfv_24_1, zfv_24_2, zfv_24_3, zfv_24_4, zfv_24_5, zfv_24_6, zfv_24_7, zfv_24_8, zfv_24_9, zK_25, zLn_25, zK_26, zLn_26, zK_27, zLn_27, zK_28, zLn_28, zK_29, zLn_29, zK_30, zLn_30, zK_31, zfv_31_0, zfv_31_1, zfv_31_2, zfv_31_3, zfv_31_4, zfv_31_5, zfv_31_6, zfv_31_7, zfv_31_8, zfv_31_9, zK_32, zLn_32, zK_33, zLn_33, zK_34, zLn_34, zK_35, zLn_35, zK_36, zLn_36, zK_37, zLn_37, zK_38, zfv_38_0, zfv_38_1, zfv_38_2, zfv_38_3, zfv_38_4, zfv_38_5, zfv_38_6, zfv_38_7, zfv_38_8, zfv_38_9, zK_39, zLn_39, zK_40, zLn_40, zK_41, zLn_41, zK_42, zLn_42, zK_43, zLn_43, zK_44, zLn_44, zK_45, zLn_45, zK_46, zLn_46, zK_47, zfv_47_0, zfv_47_1, zfv_47_2, zfv_47_3, zfv_47_4, zfv_47_5, zfv_47_6, zK_48, zLn_48, zK_49, zLn_49, zK_50, zLn_50, zK_51, zLn_51, zK_52, zLn_52, zK_53, zLn_53, zK_54, zLn_54, zK_55, zLn_55, zK_56, zLn_56, zK_57, zLn_57, zK_58, zLn_58, zK_59, zLn_59, zK_60, zfv_60_0, zfv_60_1, zfv_60_2, zK_61, zLn_61, zK_62, zfv_62_0, zK_63, zLn_63, zK_64, zfv_64_0, zfv_64_1, zfv_64_2, zfv_64_3, zfv_64_4, zfv_64_5, zfv_64_6, zfv_64_7, zfv_64_8, zfv_64_9, zfv_64_10, zfv_64_11, zfv_64_12, zfv_64_13, zfv_64_14, zfv_64_15, zfv_64_16, zfv_64_17, zfv_64_18, zfv_64_19, zfv_64_20, zfv_64_21, zfv_64_22, zfv_64_23, zfv_64_24, zfv_64_25, zfv_64_26, zfv_64_27, zK_65, zLn_65, zK_66, zLn_66, zK_67, zLn_67, zK_68, zLn_68, zK_69, zLn_69, zK_70, zLn_70, zK_71, zLn_71, zK_72, zLn_72, zK_73, zLn_73, zK_74, zLn_74, zK_75, zLn_75, zK_76, zLn_76, zK_77, zLn_77, zK_78, zLn_78, zK_79, zLn_79, zK_80, zLn_80, zK_81, zLn_81, hs, nI_clamp (show p < 2 ^ 31 by omega), e2, pk_mul]
    refine ⟨fun _ => ⟨vp_in_nI hp4 (by decide), ?_⟩, fun z => absurd z (by decide)⟩
    have hm : τ.2 1 p * D ≤ 3 * 10 := Nat.mul_le_mul h3 hD
    refine ycallp (c_leftOn _ hT hW hN hp4) ?_
    simp only [Option.toList_some, List.cons_append, List.nil_append]
    rw [g84_30]
    simp only [g84_31, g84_34, zldI, zldJ, zldR, zlk, zs1, zc1, zs2, zc2, Value.category, zdup_i, zdup_r, zdup2_i, zdup2_l, zrcv, zrm, ↓reduceIte, Nat.reduceAdd, Nat.reduceEqDiff, Nat.reduceLeDiff, Nat.reduceMul, and_false, false_and, and_true, true_and, List.map_cons, List.map_nil, List.sum_cons, List.sum_nil, Option.toList_some, Option.toList_none, List.cons_append, List.nil_append, or_true, true_or, or_false, false_or, Nat.add_zero, Nat.zero_add, Nat.one_ne_zero, Nat.zero_ne_one, not_false_eq_true, not_true_eq_false, implies_true, forall_const, exists_eq_left, reduceCtorEq, false_implies, true_implies, wA1, wA2, wI1, wI2, wJ1, wJ2, wJ3, wR1, wR2, wR31, wR32, zK_0, zfv_0_0, zfv_0_1, zfv_0_2, zfv_0_3, zfv_0_4, zfv_0_5, zfv_0_6, zfv_0_7, zfv_0_8, zfv_0_9, zK_1, zfv_1_0, zfv_1_1, zfv_1_2, zfv_1_3, zfv_1_4, zfv_1_5, zfv_1_6, zK_2, zLn_2, zK_3, zLn_3, zK_4, zfv_4_0, zfv_4_1, zfv_4_2, zfv_4_3, zfv_4_4, zfv_4_5, zfv_4_6, zfv_4_7, zfv_4_8, zfv_4_9, zfv_4_10, zfv_4_11, zK_5, zLn_5, zK_6, zLn_6, zK_7, zLn_7, zK_8, zLn_8, zK_9, zLn_9, zK_10, zLn_10, zK_11, zLn_11, zK_12, zLn_12, zK_13, zLn_13, zK_14, zfv_14_0, zfv_14_1, zfv_14_2, zfv_14_3, zfv_14_4, zfv_14_5, zfv_14_6, zfv_14_7, zfv_14_8, zfv_14_9, zfv_14_10, zfv_14_11, zK_15, zLn_15, zK_16, zLn_16, zK_17, zLn_17, zK_18, zLn_18, zK_19, zLn_19, zK_20, zLn_20, zK_21, zLn_21, zK_22, zLn_22, zK_23, zLn_23, zK_24, zfv_24_0, zfv_24_1, zfv_24_2, zfv_24_3, zfv_24_4, zfv_24_5, zfv_24_6, zfv_24_7, zfv_24_8, zfv_24_9, zK_25, zLn_25, zK_26, zLn_26, zK_27, zLn_27, zK_28, zLn_28, zK_29, zLn_29, zK_30, zLn_30, zK_31, zfv_31_0, zfv_31_1, zfv_31_2, zfv_31_3, zfv_31_4, zfv_31_5, zfv_31_6, zfv_31_7, zfv_31_8, zfv_31_9, zK_32, zLn_32, zK_33, zLn_33, zK_34, zLn_34, zK_35, zLn_35, zK_36, zLn_36, zK_37, zLn_37, zK_38, zfv_38_0, zfv_38_1, zfv_38_2, zfv_38_3, zfv_38_4, zfv_38_5, zfv_38_6, zfv_38_7, zfv_38_8, zfv_38_9, zK_39, zLn_39, zK_40, zLn_40, zK_41, zLn_41, zK_42, zLn_42, zK_43, zLn_43, zK_44, zLn_44, zK_45, zLn_45, zK_46, zLn_46, zK_47, zfv_47_0, zfv_47_1, zfv_47_2, zfv_47_3, zfv_47_4, zfv_47_5, zfv_47_6, zK_48, zLn_48, zK_49, zLn_49, zK_50, zLn_50, zK_51, zLn_51, zK_52, zLn_52, zK_53, zLn_53, zK_54, zLn_54, zK_55, zLn_55, zK_56, zLn_56, zK_57, zLn_57, zK_58, zLn_58, zK_59, zLn_59, zK_60, zfv_60_0, zfv_60_1, zfv_60_2, zK_61, zLn_61, zK_62, zfv_62_0, zK_63, zLn_63, zK_64, zfv_64_0, zfv_64_1, zfv_64_2, zfv_64_3, zfv_64_4, zfv_64_5, zfv_64_6, zfv_64_7, zfv_64_8, zfv_64_9, zfv_64_10, zfv_64_11, zfv_64_12, zfv_64_13, zfv_64_14, zfv_64_15, zfv_64_16, zfv_64_17, zfv_64_18, zfv_64_19, zfv_64_20, zfv_64_21, zfv_64_22, zfv_64_23, zfv_64_24, zfv_64_25, zfv_64_26, zfv_64_27, zK_65, zLn_65, zK_66, zLn_66, zK_67, zLn_67, zK_68, zLn_68, zK_69, zLn_69, zK_70, zLn_70, zK_71, zLn_71, zK_72, zLn_72, zK_73, zLn_73, zK_74, zLn_74, zK_75, zLn_75, zK_76, zLn_76, zK_77, zLn_77, zK_78, zLn_78, zK_79, zLn_79, zK_80, zLn_80, zK_81, zLn_81, mx0 (show τ.2 1 p * D < 2 ^ 30 by omega) (show lsum ν (nS ν p) < 2 ^ 30 by omega)]
  · rw [xB_f h, if_neg h]
    rw [g84_5]
    simp only [g84_8, g84_9, g84_10, g84_11, g84_12, g84_15, g84_18, g84_19, g84_20, g84_21, g84_22, g84_23, g84_26, g84_27, zldI, zldJ, zldR, zlk, zs1, zc1, zs2, zc2, Value.category, zdup_i, zdup_r, zdup2_i, zdup2_l, zrcv, zrm, ↓reduceIte, Nat.reduceAdd, Nat.reduceEqDiff, Nat.reduceLeDiff, Nat.reduceMul, and_false, false_and, and_true, true_and, List.map_cons, List.map_nil, List.sum_cons, List.sum_nil, Option.toList_some, Option.toList_none, List.cons_append, List.nil_append, or_true, true_or, or_false, false_or, Nat.add_zero, Nat.zero_add, Nat.one_ne_zero, Nat.zero_ne_one, not_false_eq_true, not_true_eq_false, implies_true, forall_const, exists_eq_left, reduceCtorEq, false_implies, true_implies, wA1, wA2, wI1, wI2, wJ1, wJ2, wJ3, wR1, wR2, wR31, wR32, zK_0, zfv_0_0, zfv_0_1, zfv_0_2, zfv_0_3, zfv_0_4, zfv_0_5, zfv_0_6, zfv_0_7, zfv_0_8, zfv_0_9, zK_1, zfv_1_0, zfv_1_1, zfv_1_2, zfv_1_3, zfv_1_4, zfv_1_5, zfv_1_6, zK_2, zLn_2, zK_3, zLn_3, zK_4, zfv_4_0, zfv_4_1, zfv_4_2, zfv_4_3, zfv_4_4, zfv_4_5, zfv_4_6, zfv_4_7, zfv_4_8, zfv_4_9, zfv_4_10, zfv_4_11, zK_5, zLn_5, zK_6, zLn_6, zK_7, zLn_7, zK_8, zLn_8, zK_9, zLn_9, zK_10, zLn_10, zK_11, zLn_11, zK_12, zLn_12, zK_13, zLn_13, zK_14, zfv_14_0, zfv_14_1, zfv_14_2, zfv_14_3, zfv_14_4, zfv_14_5, zfv_14_6, zfv_14_7, zfv_14_8, zfv_14_9, zfv_14_10, zfv_14_11, zK_15, zLn_15, zK_16, zLn_16, zK_17, zLn_17, zK_18, zLn_18, zK_19, zLn_19, zK_20, zLn_20, zK_21, zLn_21, zK_22, zLn_22, zK_23, zLn_23, zK_24, zfv_24_0, zfv_24_1, zfv_24_2, zfv_24_3, zfv_24_4, zfv_24_5, zfv_24_6, zfv_24_7, zfv_24_8, zfv_24_9, zK_25, zLn_25, zK_26, zLn_26, zK_27, zLn_27, zK_28, zLn_28, zK_29, zLn_29, zK_30, zLn_30, zK_31, zfv_31_0, zfv_31_1, zfv_31_2, zfv_31_3, zfv_31_4, zfv_31_5, zfv_31_6, zfv_31_7, zfv_31_8, zfv_31_9, zK_32, zLn_32, zK_33, zLn_33, zK_34, zLn_34, zK_35, zLn_35, zK_36, zLn_36, zK_37, zLn_37, zK_38, zfv_38_0, zfv_38_1, zfv_38_2, zfv_38_3, zfv_38_4, zfv_38_5, zfv_38_6, zfv_38_7, zfv_38_8, zfv_38_9, zK_39, zLn_39, zK_40, zLn_40, zK_41, zLn_41, zK_42, zLn_42, zK_43, zLn_43, zK_44, zLn_44, zK_45, zLn_45, zK_46, zLn_46, zK_47, zfv_47_0, zfv_47_1, zfv_47_2, zfv_47_3, zfv_47_4, zfv_47_5, zfv_47_6, zK_48, zLn_48, zK_49, zLn_49, zK_50, zLn_50, zK_51, zLn_51, zK_52, zLn_52, zK_53, zLn_53, zK_54, zLn_54, zK_55, zLn_55, zK_56, zLn_56, zK_57, zLn_57, zK_58, zLn_58, zK_59, zLn_59, zK_60, zfv_60_0, zfv_60_1, zfv_60_2, zK_61, zLn_61, zK_62, zfv_62_0, zK_63, zLn_63, zK_64, zfv_64_0, zfv_64_1, zfv_64_2, zfv_64_3, zfv_64_4, zfv_64_5, zfv_64_6, zfv_64_7, zfv_64_8, zfv_64_9, zfv_64_10, zfv_64_11, zfv_64_12, zfv_64_13, zfv_64_14, zfv_64_15, zfv_64_16, zfv_64_17, zfv_64_18, zfv_64_19, zfv_64_20, zfv_64_21, zfv_64_22, zfv_64_23, zfv_64_24, zfv_64_25, zfv_64_26, zfv_64_27, zK_65, zLn_65, zK_66, zLn_66, zK_67, zLn_67, zK_68, zLn_68, zK_69, zLn_69, zK_70, zLn_70, zK_71, zLn_71, zK_72, zLn_72, zK_73, zLn_73, zK_74, zLn_74, zK_75, zLn_75, zK_76, zLn_76, zK_77, zLn_77, zK_78, zLn_78, zK_79, zLn_79, zK_80, zLn_80, zK_81, zLn_81]
    rfl
set_option maxHeartbeats 2000000 in
theorem c_cheap (d : Nat) {m : Nat} (hs : σ.2.2 = (4, 14)) (hT : WfT τ) (hR : RTc 4 τ σ) (hm : m < 256) (hex : ∃ q, q < tP τ ∧ m.testBit q = false) : yC (d + 1) 83 [.ref 0, .int (nI m)] σ (fun r σ' => (∃ b, r = some (.int (nI b)) ∧ b < tP τ ∧ m.testBit b = false ∧ ∀ q, q < tP τ → m.testBit q = false → τ.2 2 b < τ.2 2 q ∨ (τ.2 2 b = τ.2 2 q ∧ b ≤ q)) ∧ σ' = σ) := by
  have hP4 := hT.1
  have e0 : σ.1 4 0 = nI (tP τ) := hR.1.1
  refine C83 (Nat.le_of_ble_eq_true rfl) ?_
  simp only [lv_args, Value.category]
  rw [g83_0]
  simp only [g83_1, g83_2, g83_4, g83_5, g83_6, zldI, zldJ, zldR, zlk, zs1, zc1, zs2, zc2, Value.category, zdup_i, zdup_r, zdup2_i, zdup2_l, zrcv, zrm, ↓reduceIte, Nat.reduceAdd, Nat.reduceEqDiff, Nat.reduceLeDiff, Nat.reduceMul, and_false, false_and, and_true, true_and, List.map_cons, List.map_nil, List.sum_cons, List.sum_nil, Option.toList_some, Option.toList_none, List.cons_append, List.nil_append, or_true, true_or, or_false, false_or, Nat.add_zero, Nat.zero_add, Nat.one_ne_zero, Nat.zero_ne_one, not_false_eq_true, not_true_eq_false, implies_true, forall_const, exists_eq_left, reduceCtorEq, false_implies, true_implies, wA1, wA2, wI1, wI2, wJ1, wJ2, wJ3, wR1, wR2, wR31, wR32, zK_0, zfv_0_0, zfv_0_1, zfv_0_2, zfv_0_3, zfv_0_4, zfv_0_5, zfv_0_6, zfv_0_7, zfv_0_8, zfv_0_9, zK_1, zfv_1_0, zfv_1_1, zfv_1_2, zfv_1_3, zfv_1_4, zfv_1_5, zfv_1_6, zK_2, zLn_2, zK_3, zLn_3, zK_4, zfv_4_0, zfv_4_1, zfv_4_2, zfv_4_3, zfv_4_4, zfv_4_5, zfv_4_6, zfv_4_7, zfv_4_8, zfv_4_9, zfv_4_10, zfv_4_11, zK_5, zLn_5, zK_6, zLn_6, zK_7, zLn_7, zK_8, zLn_8, zK_9, zLn_9, zK_10, zLn_10, zK_11, zLn_11, zK_12, zLn_12, zK_13, zLn_13, zK_14, zfv_14_0, zfv_14_1, zfv_14_2, zfv_14_3, zfv_14_4, zfv_14_5, zfv_14_6, zfv_14_7, zfv_14_8, zfv_14_9, zfv_14_10, zfv_14_11, zK_15, zLn_15, zK_16, zLn_16, zK_17, zLn_17, zK_18, zLn_18, zK_19, zLn_19, zK_20, zLn_20, zK_21, zLn_21, zK_22, zLn_22, zK_23, zLn_23, zK_24, zfv_24_0, zfv_24_1, zfv_24_2, zfv_24_3, zfv_24_4, zfv_24_5, zfv_24_6, zfv_24_7, zfv_24_8, zfv_24_9, zK_25, zLn_25, zK_26, zLn_26, zK_27, zLn_27, zK_28, zLn_28, zK_29, zLn_29, zK_30, zLn_30, zK_31, zfv_31_0, zfv_31_1, zfv_31_2, zfv_31_3, zfv_31_4, zfv_31_5, zfv_31_6, zfv_31_7, zfv_31_8, zfv_31_9, zK_32, zLn_32, zK_33, zLn_33, zK_34, zLn_34, zK_35, zLn_35, zK_36, zLn_36, zK_37, zLn_37, zK_38, zfv_38_0, zfv_38_1, zfv_38_2, zfv_38_3, zfv_38_4, zfv_38_5, zfv_38_6, zfv_38_7, zfv_38_8, zfv_38_9, zK_39, zLn_39, zK_40, zLn_40, zK_41, zLn_41, zK_42, zLn_42, zK_43, zLn_43, zK_44, zLn_44, zK_45, zLn_45, zK_46, zLn_46, zK_47, zfv_47_0, zfv_47_1, zfv_47_2, zfv_47_3, zfv_47_4, zfv_47_5, zfv_47_6, zK_48, zLn_48, zK_49, zLn_49, zK_50, zLn_50, zK_51, zLn_51, zK_52, zLn_52, zK_53, zLn_53, zK_54, zLn_54, zK_55, zLn_55, zK_56, zLn_56, zK_57, zLn_57, zK_58, zLn_58, zK_59, zLn_59, zK_60, zfv_60_0, zfv_60_1, zfv_60_2, zK_61, zLn_61, zK_62, zfv_62_0, zK_63, zLn_63, zK_64, zfv_64_0, zfv_64_1, zfv_64_2, zfv_64_3, zfv_64_4, zfv_64_5, zfv_64_6, zfv_64_7, zfv_64_8, zfv_64_9, zfv_64_10, zfv_64_11, zfv_64_12, zfv_64_13, zfv_64_14, zfv_64_15, zfv_64_16, zfv_64_17, zfv_64_18, zfv_64_19, zfv_64_20, zfv_64_21, zfv_64_22, zfv_64_23, zfv_64_24, zfv_64_25, zfv_64_26, zfv_64_27, zK_65, zLn_65, zK_66, zLn_66, zK_67, zLn_67, zK_68, zLn_68, zK_69, zLn_69, zK_70, zLn_70, zK_71, zLn_71, zK_72, zLn_72, zK_73, zLn_73, zK_74, zLn_74, zK_75, zLn_75, zK_76, zLn_76, zK_77, zLn_77, zK_78, zLn_78, zK_79, zLn_79, zK_80, zLn_80, zK_81, zLn_81]
  suffices H : ∀ b bp, bp ≤ 10 → ((bp = 10 ∧ b = 0 ∧ ∀ q, q < 0 → m.testBit q = true) ∨ (b < 0 ∧ m.testBit b = false ∧ bp = τ.2 2 b ∧ (∀ q, q < b → m.testBit q = false → τ.2 2 b < τ.2 2 q) ∧ ∀ q, q < 0 → m.testBit q = false → τ.2 2 b ≤ τ.2 2 q)) → Y83 d (fun r σ' => (∃ b, r = some (.int (nI b)) ∧ b < tP τ ∧ m.testBit b = false ∧ ∀ q, q < tP τ → m.testBit q = false → τ.2 2 b < τ.2 2 q ∨ (τ.2 2 b = τ.2 2 q ∧ b ≤ q)) ∧ σ' = σ) 8 [(0, .ref 0), (1, .int (nI m)), (2, .int (nI b)), (3, .int (nI bp)), (4, .int (nI 0))] [] σ from H 0 10 (Nat.le_refl _) (Or.inl ⟨rfl, rfl, fun q hq => absurd hq (Nat.not_lt_zero q)⟩)
  refine yup (P := fun i => ∀ b bp, bp ≤ 10 → ((bp = 10 ∧ b = 0 ∧ ∀ q, q < i → m.testBit q = true) ∨ (b < i ∧ m.testBit b = false ∧ bp = τ.2 2 b ∧ (∀ q, q < b → m.testBit q = false → τ.2 2 b < τ.2 2 q) ∧ ∀ q, q < i → m.testBit q = false → τ.2 2 b ≤ τ.2 2 q)) → Y83 d (fun r σ' => (∃ b, r = some (.int (nI b)) ∧ b < tP τ ∧ m.testBit b = false ∧ ∀ q, q < tP τ → m.testBit q = false → τ.2 2 b < τ.2 2 q ∨ (τ.2 2 b = τ.2 2 q ∧ b ≤ q)) ∧ σ' = σ) 8 [(0, .ref 0), (1, .int (nI m)), (2, .int (nI b)), (3, .int (nI bp)), (4, .int (nI i))] [] σ) 0 (tP τ) (Nat.zero_le _) ?_ ?_
  · intro b bp hbp hinv
    rw [g83_8]
    simp only [g83_10, g83_11, g83_14, g83_17, g83_20, g83_21, g83_23, g83_24, g83_25, g83_26, g83_29, g83_30, g83_33, g83_36, g83_38, g83_39, g83_40, g83_43, g83_45, g83_46, g83_47, g83_50, g83_53, g83_55, g83_56, g83_57, g83_60, g83_63, g83_64, zldI, zldJ, zldR, zlk, zs1, zc1, zs2, zc2, Value.category, zdup_i, zdup_r, zdup2_i, zdup2_l, zrcv, zrm, ↓reduceIte, Nat.reduceAdd, Nat.reduceEqDiff, Nat.reduceLeDiff, Nat.reduceMul, and_false, false_and, and_true, true_and, List.map_cons, List.map_nil, List.sum_cons, List.sum_nil, Option.toList_some, Option.toList_none, List.cons_append, List.nil_append, or_true, true_or, or_false, false_or, Nat.add_zero, Nat.zero_add, Nat.one_ne_zero, Nat.zero_ne_one, not_false_eq_true, not_true_eq_false, implies_true, forall_const, exists_eq_left, reduceCtorEq, false_implies, true_implies, wA1, wA2, wI1, wI2, wJ1, wJ2, wJ3, wR1, wR2, wR31, wR32, zK_0, zfv_0_0, zfv_0_1, zfv_0_2, zfv_0_3, zfv_0_4, zfv_0_5, zfv_0_6, zfv_0_7, zfv_0_8, zfv_0_9, zK_1, zfv_1_0, zfv_1_1, zfv_1_2, zfv_1_3, zfv_1_4, zfv_1_5, zfv_1_6, zK_2, zLn_2, zK_3, zLn_3, zK_4, zfv_4_0, zfv_4_1, zfv_4_2, zfv_4_3, zfv_4_4, zfv_4_5, zfv_4_6, zfv_4_7, zfv_4_8, zfv_4_9, zfv_4_10, zfv_4_11, zK_5, zLn_5, zK_6, zLn_6, zK_7, zLn_7, zK_8, zLn_8, zK_9, zLn_9, zK_10, zLn_10, zK_11, zLn_11, zK_12, zLn_12, zK_13, zLn_13, zK_14, zfv_14_0, zfv_14_1, zfv_14_2, zfv_14_3, zfv_14_4, zfv_14_5, zfv_14_6, zfv_14_7, zfv_14_8, zfv_14_9, zfv_14_10, zfv_14_11, zK_15, zLn_15, zK_16, zLn_16, zK_17, zLn_17, zK_18, zLn_18, zK_19, zLn_19, zK_20, zLn_20, zK_21, zLn_21, zK_22, zLn_22, zK_23, zLn_23, zK_24, zfv_24_0, zfv_24_1, zfv_24_2, zfv_24_3, zfv_24_4, zfv_24_5, zfv_24_6, zfv_24_7, zfv_24_8, zfv_24_9, zK_25, zLn_25, zK_26, zLn_26, zK_27, zLn_27, zK_28, zLn_28, zK_29, zLn_29, zK_30, zLn_30, zK_31, zfv_31_0, zfv_31_1, zfv_31_2, zfv_31_3, zfv_31_4, zfv_31_5, zfv_31_6, zfv_31_7, zfv_31_8, zfv_31_9, zK_32, zLn_32, zK_33, zLn_33, zK_34, zLn_34, zK_35, zLn_35, zK_36, zLn_36, zK_37, zLn_37, zK_38, zfv_38_0, zfv_38_1, zfv_38_2, zfv_38_3, zfv_38_4, zfv_38_5, zfv_38_6, zfv_38_7, zfv_38_8, zfv_38_9, zK_39, zLn_39, zK_40, zLn_40, zK_41, zLn_41, zK_42, zLn_42, zK_43, zLn_43, zK_44, zLn_44, zK_45, zLn_45, zK_46, zLn_46, zK_47, zfv_47_0, zfv_47_1, zfv_47_2, zfv_47_3, zfv_47_4, zfv_47_5, zfv_47_6, zK_48, zLn_48, zK_49, zLn_49, zK_50, zLn_50, zK_51, zLn_51, zK_52, zLn_52, zK_53, zLn_53, zK_54, zLn_54, zK_55, zLn_55, zK_56, zLn_56, zK_57, zLn_57, zK_58, zLn_58, zK_59, zLn_59, zK_60, zfv_60_0, zfv_60_1, zfv_60_2, zK_61, zLn_61, zK_62, zfv_62_0, zK_63, zLn_63, zK_64, zfv_64_0, zfv_64_1, zfv_64_2, zfv_64_3, zfv_64_4, zfv_64_5, zfv_64_6, zfv_64_7, zfv_64_8, zfv_64_9, zfv_64_10, zfv_64_11, zfv_64_12, zfv_64_13, zfv_64_14, zfv_64_15, zfv_64_16, zfv_64_17, zfv_64_18, zfv_64_19, zfv_64_20, zfv_64_21, zfv_64_22, zfv_64_23, zfv_64_24, zfv_64_25, zfv_64_26, zfv_64_27, zK_65, zLn_65, zK_66, zLn_66, zK_67, zLn_67, zK_68, zLn_68, zK_69, zLn_69, zK_70, zLn_70, zK_71, zLn_71, zK_72, zLn_72, zK_73, zLn_73, zK_74, zLn_74, zK_75, zLn_75, zK_76, zLn_76, zK_77, zLn_77, zK_78, zLn_78, zK_79, zLn_79, zK_80, zLn_80, zK_81, zLn_81, hs, e0]
    refine ⟨fun _ => ?_, fun h => absurd (nI_le (Nat.le_refl _) (by omega)) h⟩
    rcases hinv with ⟨_, _, h3⟩ | ⟨h1, h2, h3, h4, h5⟩
    · obtain ⟨q, hq, hq2⟩ := hex
      rw [h3 q hq] at hq2
      exact absurd hq2 (by decide)
    · refine ⟨b, rfl, h1, h2, fun q hq hq2 => ?_⟩
      rcases Nat.lt_or_ge q b with z | z
      · exact Or.inl (h4 q z hq2)
      · rcases Nat.eq_or_lt_of_le (h5 q hq hq2) with y | y
        · exact Or.inr ⟨y, z⟩
        · exact Or.inl y
  · intro i _ hi ih b bp hbp hinv
    have e7 : σ.1 7 i = nI (τ.2 2 i) := (hR.2.1 i hi).2.2
    have hpr := (hT.2.2.2.1 i hi).2.2
    rw [g83_8]
    simp only [g83_10, g83_11, g83_14, g83_17, g83_20, g83_21, g83_23, g83_24, g83_25, g83_26, g83_29, g83_30, g83_33, g83_36, g83_38, g83_39, g83_40, g83_43, g83_45, g83_46, g83_47, g83_50, g83_53, g83_55, g83_56, g83_57, g83_60, g83_63, g83_64, zldI, zldJ, zldR, zlk, zs1, zc1, zs2, zc2, Value.category, zdup_i, zdup_r, zdup2_i, zdup2_l, zrcv, zrm, ↓reduceIte, Nat.reduceAdd, Nat.reduceEqDiff, Nat.reduceLeDiff, Nat.reduceMul, and_false, false_and, and_true, true_and, List.map_cons, List.map_nil, List.sum_cons, List.sum_nil, Option.toList_some, Option.toList_none, List.cons_append, List.nil_append, or_true, true_or, or_false, false_or, Nat.add_zero, Nat.zero_add, Nat.one_ne_zero, Nat.zero_ne_one, not_false_eq_true, not_true_eq_false, implies_true, forall_const, exists_eq_left, reduceCtorEq, false_implies, true_implies, wA1, wA2, wI1, wI2, wJ1, wJ2, wJ3, wR1, wR2, wR31, wR32, zK_0, zfv_0_0, zfv_0_1, zfv_0_2, zfv_0_3, zfv_0_4, zfv_0_5, zfv_0_6, zfv_0_7, zfv_0_8, zfv_0_9, zK_1, zfv_1_0, zfv_1_1, zfv_1_2, zfv_1_3, zfv_1_4, zfv_1_5, zfv_1_6, zK_2, zLn_2, zK_3, zLn_3, zK_4, zfv_4_0, zfv_4_1, zfv_4_2, zfv_4_3, zfv_4_4, zfv_4_5, zfv_4_6, zfv_4_7, zfv_4_8, zfv_4_9, zfv_4_10, zfv_4_11, zK_5, zLn_5, zK_6, zLn_6, zK_7, zLn_7, zK_8, zLn_8, zK_9, zLn_9, zK_10, zLn_10, zK_11, zLn_11, zK_12, zLn_12, zK_13, zLn_13, zK_14, zfv_14_0, zfv_14_1, zfv_14_2, zfv_14_3, zfv_14_4, zfv_14_5, zfv_14_6, zfv_14_7, zfv_14_8, zfv_14_9, zfv_14_10, zfv_14_11, zK_15, zLn_15, zK_16, zLn_16, zK_17, zLn_17, zK_18, zLn_18, zK_19, zLn_19, zK_20, zLn_20, zK_21, zLn_21, zK_22, zLn_22, zK_23, zLn_23, zK_24, zfv_24_0, zfv_24_1, zfv_24_2, zfv_24_3, zfv_24_4, zfv_24_5, zfv_24_6, zfv_24_7, zfv_24_8, zfv_24_9, zK_25, zLn_25, zK_26, zLn_26, zK_27, zLn_27, zK_28, zLn_28, zK_29, zLn_29, zK_30, zLn_30, zK_31, zfv_31_0, zfv_31_1, zfv_31_2, zfv_31_3, zfv_31_4, zfv_31_5, zfv_31_6, zfv_31_7, zfv_31_8, zfv_31_9, zK_32, zLn_32, zK_33, zLn_33, zK_34, zLn_34, zK_35, zLn_35, zK_36, zLn_36, zK_37, zLn_37, zK_38, zfv_38_0, zfv_38_1, zfv_38_2, zfv_38_3, zfv_38_4, zfv_38_5, zfv_38_6, zfv_38_7, zfv_38_8, zfv_38_9, zK_39, zLn_39, zK_40, zLn_40, zK_41, zLn_41, zK_42, zLn_42, zK_43, zLn_43, zK_44, zLn_44, zK_45, zLn_45, zK_46, zLn_46, zK_47, zfv_47_0, zfv_47_1, zfv_47_2, zfv_47_3, zfv_47_4, zfv_47_5, zfv_47_6, zK_48, zLn_48, zK_49, zLn_49, zK_50, zLn_50, zK_51, zLn_51, zK_52, zLn_52, zK_53, zLn_53, zK_54, zLn_54, zK_55, zLn_55, zK_56, zLn_56, zK_57, zLn_57, zK_58, zLn_58, zK_59, zLn_59, zK_60, zfv_60_0, zfv_60_1, zfv_60_2, zK_61, zLn_61, zK_62, zfv_62_0, zK_63, zLn_63, zK_64, zfv_64_0, zfv_64_1, zfv_64_2, zfv_64_3, zfv_64_4, zfv_64_5, zfv_64_6, zfv_64_7, zfv_64_8, zfv_64_9, zfv_64_10, zfv_64_11, zfv_64_12, zfv_64_13, zfv_64_14, zfv_64_15, zfv_64_16, zfv_64_17, zfv_64_18, zfv_64_19, zfv_64_20, zfv_64_21, zfv_64_22, zfv_64_23, zfv_64_24, zfv_64_25, zfv_64_26, zfv_64_27, zK_65, zLn_65, zK_66, zLn_66, zK_67, zLn_67, zK_68, zLn_68, zK_69, zLn_69, zK_70, zLn_70, zK_71, zLn_71, zK_72, zLn_72, zK_73, zLn_73, zK_74, zLn_74, zK_75, zLn_75, zK_76, zLn_76, zK_77, zLn_77, zK_78, zLn_78, zK_79, zLn_79, zK_80, zLn_80, zK_81, zLn_81, hs, e0, nI_clamp (show i < 2 ^ 31 by omega), e7, nI_1]
    refine ⟨fun h => absurd h (nI_ge hi (by omega)), fun _ => ⟨fun h => ?_, fun h => ?_⟩⟩
    · have hb : m.testBit i = true := by
        cases z : m.testBit i with
        | true => rfl
        | false => exact absurd ((bs_0 (by omega) (by omega)).mpr z) h
      refine ih b bp hbp ?_
      rcases hinv with ⟨h1, h2, h3⟩ | ⟨h1, h2, h3, h4, h5⟩
      · refine Or.inl ⟨h1, h2, fun q hq => ?_⟩
        by_cases e : q = i
        · rw [e]; exact hb
        · exact h3 q (by omega)
      · refine Or.inr ⟨by omega, h2, h3, h4, fun q hq hq2 => ?_⟩
        by_cases e : q = i
        · rw [e, hb] at hq2
          exact absurd hq2 (by decide)
        · exact h5 q (by omega) hq2
    · have hb : m.testBit i = false := (bs_0 (by omega) (by omega)).mp h
      repeat (first | refine ⟨vp_in_nI (by omega) (by decide), ?_⟩ | refine ⟨(by unfold vp_in; decide), ?_⟩)
      refine ⟨fun h => ?_, fun h => ?_⟩
      · have hle : bp ≤ τ.2 2 i := (nI_leI (by omega) (by omega)).mp h
        refine ih b bp hbp ?_
        rcases hinv with ⟨h1, h2, h3⟩ | ⟨h1, h2, h3, h4, h5⟩
        · omega
        · refine Or.inr ⟨by omega, h2, h3, h4, fun q hq hq2 => ?_⟩
          by_cases e : q = i
          · rw [e]; omega
          · exact h5 q (by omega) hq2
      · have hlt : τ.2 2 i < bp := by
          rcases Nat.lt_or_ge (τ.2 2 i) bp with z | z
          · exact z
          · exact absurd (nI_le z (by omega)) h
        repeat (first | refine ⟨vp_in_nI (by omega) (by decide), ?_⟩ | refine ⟨(by unfold vp_in; decide), ?_⟩)
        refine ih i (τ.2 2 i) (by omega) (Or.inr ⟨by omega, hb, rfl, fun q hq hq2 => ?_, fun q hq hq2 => ?_⟩)
        · rcases hinv with ⟨h1, h2, h3⟩ | ⟨h1, h2, h3, h4, h5⟩
          · rw [h3 q hq] at hq2
            exact absurd hq2 (by decide)
          · have := h5 q hq hq2
            omega
        · by_cases e : q = i
          · rw [e]; exact Nat.le_refl _
          · rcases hinv with ⟨h1, h2, h3⟩ | ⟨h1, h2, h3, h4, h5⟩
            · rw [h3 q (by omega)] at hq2
              exact absurd hq2 (by decide)
            · have := h5 q (by omega) hq2
              omega
end
