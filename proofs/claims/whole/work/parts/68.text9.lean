/-! ===== a text: the model reads a word, an item ===== -/
def wl (f : Nat → Nat) (q : Nat) : Nat → Nat
  | 0 => 0
  | k + 1 => 32 * wl f q k + (f (q + k) - 96)
theorem wl_s (f : Nat → Nat) (q k : Nat) : wl f q (k + 1) = 32 * wl f q k + (f (q + k) - 96) := rfl
theorem wl_lt {f : Nat → Nat} {q : Nat} : ∀ {k}, (∀ i, i < k → 97 ≤ f (q + i) ∧ f (q + i) ≤ 122) → k ≤ 7 → wl f q k < 32 ^ k
  | 0, _, _ => (by decide : 0 < 1)
  | k + 1, h, hk => by
    have h1 := wl_lt (k := k) (fun i hi => h i (by omega)) (by omega)
    have h2 := h k (by omega)
    rw [wl_s, Nat.pow_succ]
    omega
theorem wl_big {f : Nat → Nat} {q : Nat} (h : ∀ i, i < 7 → 97 ≤ f (q + i) ∧ f (q + i) ≤ 122) : 1073741824 ≤ wl f q 7 := by
  have a := h 0 (by decide)
  simp only [wl]
  rw [Nat.add_zero] at *
  omega
/-- the words as numbers -/
def wc (k : Nat) : Nat := [542723566, 1643, 8435955].getD k 0
theorem nI_lit {a : Nat} (b : Nat) (ha : a < 1000) (hb : b < 1000) : nI a = nI b ↔ a = b := nI_eq (by omega) (by omega)
section
variable {x : aX}
theorem lq_in {q i : Nat} (h : i < lq x q - q) : 97 ≤ x.2 (q + i) ∧ x.2 (q + i) ≤ 122 := isL_b (rn_in (P := fun k => isL (x.2 k)) (n := x.1) (p := q) (by omega) (by show q + i < lq x q; omega))
theorem lit_0 {f : Nat → Nat} {q : Nat} (hb : ∀ k, f k < 256) : (∀ i, i < 6 → nI (f (q + i)) = (zby.getD 0 []).getD i 0) ↔ (f q = 112 ∧ f (q + 1) = 101 ∧ f (q + 2) = 114 ∧ f (q + 3) = 115 ∧ f (q + 4) = 111 ∧ f (q + 5) = 110) := by
  have g : ∀ i b, b < 256 → (nI (f (q + i)) = nI b ↔ f (q + i) = b) := fun i b h => nI_eq (by have := hb (q + i); omega) (by omega)
  constructor
  · intro h
    exact ⟨(g 0 112 (by decide)).mp (h 0 (by decide)), (g 1 101 (by decide)).mp (h 1 (by decide)), (g 2 114 (by decide)).mp (h 2 (by decide)), (g 3 115 (by decide)).mp (h 3 (by decide)), (g 4 111 (by decide)).mp (h 4 (by decide)), (g 5 110 (by decide)).mp (h 5 (by decide))⟩
  · rintro ⟨h0, h1, h2, h3, h4, h5⟩ i hi
    match i, hi with
    | 0, _ => exact (g 0 112 (by decide)).mpr h0
    | 1, _ => exact (g 1 101 (by decide)).mpr h1
    | 2, _ => exact (g 2 114 (by decide)).mpr h2
    | 3, _ => exact (g 3 115 (by decide)).mpr h3
    | 4, _ => exact (g 4 111 (by decide)).mpr h4
    | 5, _ => exact (g 5 110 (by decide)).mpr h5
    | j + 6, h => omega
theorem lit_1 {f : Nat → Nat} {q : Nat} (hb : ∀ k, f k < 256) : (∀ i, i < 3 → nI (f (q + i)) = (zby.getD 1 []).getD i 0) ↔ (f q = 97 ∧ f (q + 1) = 115 ∧ f (q + 2) = 107) := by
  have g : ∀ i b, b < 256 → (nI (f (q + i)) = nI b ↔ f (q + i) = b) := fun i b h => nI_eq (by have := hb (q + i); omega) (by omega)
  constructor
  · intro h
    exact ⟨(g 0 97 (by decide)).mp (h 0 (by decide)), (g 1 115 (by decide)).mp (h 1 (by decide)), (g 2 107 (by decide)).mp (h 2 (by decide))⟩
  · rintro ⟨h0, h1, h2⟩ i hi
    match i, hi with
    | 0, _ => exact (g 0 97 (by decide)).mpr h0
    | 1, _ => exact (g 1 115 (by decide)).mpr h1
    | 2, _ => exact (g 2 107 (by decide)).mpr h2
    | j + 3, h => omega
theorem lit_2 {f : Nat → Nat} {q : Nat} (hb : ∀ k, f k < 256) : (∀ i, i < 5 → nI (f (q + i)) = (zby.getD 2 []).getD i 0) ↔ (f q = 104 ∧ f (q + 1) = 97 ∧ f (q + 2) = 110 ∧ f (q + 3) = 103 ∧ f (q + 4) = 115) := by
  have g : ∀ i b, b < 256 → (nI (f (q + i)) = nI b ↔ f (q + i) = b) := fun i b h => nI_eq (by have := hb (q + i); omega) (by omega)
  constructor
  · intro h
    exact ⟨(g 0 104 (by decide)).mp (h 0 (by decide)), (g 1 97 (by decide)).mp (h 1 (by decide)), (g 2 110 (by decide)).mp (h 2 (by decide)), (g 3 103 (by decide)).mp (h 3 (by decide)), (g 4 115 (by decide)).mp (h 4 (by decide))⟩
  · rintro ⟨h0, h1, h2, h3, h4⟩ i hi
    match i, hi with
    | 0, _ => exact (g 0 104 (by decide)).mpr h0
    | 1, _ => exact (g 1 97 (by decide)).mpr h1
    | 2, _ => exact (g 2 110 (by decide)).mpr h2
    | 3, _ => exact (g 3 103 (by decide)).mpr h3
    | 4, _ => exact (g 4 115 (by decide)).mpr h4
    | j + 5, h => omega
theorem wl_num {f : Nat → Nat} {q : Nat} : ∀ m, m ≤ 7 → (∀ i, i < m → 97 ≤ f (q + i) ∧ f (q + i) ≤ 122) → ((wl f q m = 542723566 ↔ m = 6 ∧ (f q = 112 ∧ f (q + 1) = 101 ∧ f (q + 2) = 114 ∧ f (q + 3) = 115 ∧ f (q + 4) = 111 ∧ f (q + 5) = 110)) ∧ (wl f q m = 1643 ↔ m = 3 ∧ (f q = 97 ∧ f (q + 1) = 115 ∧ f (q + 2) = 107)) ∧ (wl f q m = 8435955 ↔ m = 5 ∧ (f q = 104 ∧ f (q + 1) = 97 ∧ f (q + 2) = 110 ∧ f (q + 3) = 103 ∧ f (q + 4) = 115))) := by
  intro m hm h
  match m, hm, h with
  | 0, _, _ => simp only [wl]; omega
  | 1, _, h =>
    have a0 := h 0 (by decide)
    simp only [wl, Nat.add_zero] at a0 ⊢
    omega
  | 2, _, h =>
    have a0 := h 0 (by decide)
    have a1 := h 1 (by decide)
    simp only [wl, Nat.add_zero] at a0 ⊢
    omega
  | 3, _, h =>
    have a0 := h 0 (by decide)
    have a1 := h 1 (by decide)
    have a2 := h 2 (by decide)
    simp only [wl, Nat.add_zero] at a0 ⊢
    refine ⟨by omega, ⟨fun z => ?_, fun z => by omega⟩, by omega⟩
    have b0 : f q = 97 := by omega
    have b1 : f (q + 1) = 115 := by omega
    exact ⟨trivial, b0, b1, by omega⟩
  | 4, _, h =>
    have a0 := h 0 (by decide)
    have a1 := h 1 (by decide)
    have a2 := h 2 (by decide)
    have a3 := h 3 (by decide)
    simp only [wl, Nat.add_zero] at a0 ⊢
    omega
  | 5, _, h =>
    have a0 := h 0 (by decide)
    have a1 := h 1 (by decide)
    have a2 := h 2 (by decide)
    have a3 := h 3 (by decide)
    have a4 := h 4 (by decide)
    simp only [wl, Nat.add_zero] at a0 ⊢
    refine ⟨by omega, by omega, ⟨fun z => ?_, fun z => by omega⟩⟩
    have b0 : f q = 104 := by omega
    have b1 : f (q + 1) = 97 := by omega
    have b2 : f (q + 2) = 110 := by omega
    have b3 : f (q + 3) = 103 := by omega
    exact ⟨trivial, b0, b1, b2, b3, by omega⟩
  | 6, _, h =>
    have a0 := h 0 (by decide)
    have a1 := h 1 (by decide)
    have a2 := h 2 (by decide)
    have a3 := h 3 (by decide)
    have a4 := h 4 (by decide)
    have a5 := h 5 (by decide)
    simp only [wl, Nat.add_zero] at a0 ⊢
    refine ⟨⟨fun z => ?_, fun z => by omega⟩, by omega, by omega⟩
    have b0 : f q = 112 := by omega
    have b1 : f (q + 1) = 101 := by omega
    have b2 : f (q + 2) = 114 := by omega
    have b3 : f (q + 3) = 115 := by omega
    have b4 : f (q + 4) = 111 := by omega
    exact ⟨trivial, b0, b1, b2, b3, b4, by omega⟩
  | 7, _, h =>
    have := wl_big h
    omega
/-- what the model's word tells -/
def wN (x : aX) (q : Nat) : Nat := wl x.2 q (min (lq x q - q) 7)
theorem wN_iff {q : Nat} (hx : Wx x) (hq : q ≤ x.1) : (wN x q = 542723566 ↔ wd x q 0) ∧ (wN x q = 1643 ↔ wd x q 1) ∧ (wN x q = 8435955 ↔ wd x q 2) := by
  have hl := lq_b (x := x) hq
  obtain ⟨n1, n2, n3⟩ := wl_num (f := x.2) (q := q) (min (lq x q - q) 7) (Nat.min_le_right _ _) (fun i hi => lq_in (by omega))
  have h0 := lit_0 (q := q) hx.2
  have h1 := lit_1 (q := q) hx.2
  have h2 := lit_2 (q := q) hx.2
  refine ⟨n1.trans ?_, n2.trans ?_, n3.trans ?_⟩
  · rw [← h0]
    exact ⟨fun z => ⟨by show lq x q = q + 6; omega, z.2⟩, fun z => ⟨by have : lq x q = q + 6 := z.1; omega, z.2⟩⟩
  · rw [← h1]
    exact ⟨fun z => ⟨by show lq x q = q + 3; omega, z.2⟩, fun z => ⟨by have : lq x q = q + 3 := z.1; omega, z.2⟩⟩
  · rw [← h2]
    exact ⟨fun z => ⟨by show lq x q = q + 5; omega, z.2⟩, fun z => ⟨by have : lq x q = q + 5 := z.1; omega, z.2⟩⟩
theorem wN_lt (q : Nat) : wN x q < 34359738368 := wl_lt (k := min (lq x q - q) 7) (fun i hi => lq_in (by omega)) (Nat.min_le_right _ _) |> fun h => Nat.lt_of_lt_of_le h (Nat.pow_le_pow_right (by decide) (Nat.min_le_right (lq x q - q) 7))
variable {σ : zSt}
set_option maxHeartbeats 4000000 in
theorem m_letters (d : Nat) {q : Nat} {Q : Option Value → zSt → Prop} (hx : Wx x) (h : Xm x σ) (hq : q ≤ x.1) (h17 : σ.1 64 17 = nI q) (k : Q (some (.long (lN (wN x q)))) (zwI σ 64 17 (nI (lq x q)))) : yC (d + 2) 101 [.ref 64] σ Q := by
  have hn := hx.1
  have hlq := lq_b (x := x) hq
  have e15 : σ.1 64 15 = nI x.1 := h.1
  have h10 : ¬ (1 : Int32) = 0 := by decide
  refine C101 (Nat.le_of_ble_eq_true rfl) ?_
  simp only [lv_args, Value.category]
  rw [g101_0]
  simp only [g101_1, g101_2, g101_3, g101_6, zldI, zldJ, zldR, zlk, zs1, zc1, zs2, zc2, Value.category, zdup_i, zdup_r, zdup2_i, zdup2_l, zrcv, zrm, ↓reduceIte, Nat.reduceAdd, Nat.reduceEqDiff, Nat.reduceLeDiff, Nat.reduceMul, and_false, false_and, and_true, true_and, List.map_cons, List.map_nil, List.sum_cons, List.sum_nil, Option.toList_some, Option.toList_none, List.cons_append, List.nil_append, or_true, true_or, or_false, false_or, Nat.add_zero, Nat.zero_add, Nat.one_ne_zero, Nat.zero_ne_one, not_false_eq_true, not_true_eq_false, implies_true, forall_const, exists_eq_left, reduceCtorEq, false_implies, true_implies, wA1, wA2, wI1, wI2, wJ1, wJ2, wJ3, wR1, wR2, wR31, wR32, zK_0, zfv_0_0, zfv_0_1, zfv_0_2, zfv_0_3, zfv_0_4, zfv_0_5, zfv_0_6, zfv_0_7, zfv_0_8, zfv_0_9, zK_1, zfv_1_0, zfv_1_1, zfv_1_2, zfv_1_3, zfv_1_4, zfv_1_5, zfv_1_6, zK_2, zLn_2, zK_3, zLn_3, zK_4, zfv_4_0, zfv_4_1, zfv_4_2, zfv_4_3, zfv_4_4, zfv_4_5, zfv_4_6, zfv_4_7, zfv_4_8, zfv_4_9, zfv_4_10, zfv_4_11, zK_5, zLn_5, zK_6, zLn_6, zK_7, zLn_7, zK_8, zLn_8, zK_9, zLn_9, zK_10, zLn_10, zK_11, zLn_11, zK_12, zLn_12, zK_13, zLn_13, zK_14, zfv_14_0, zfv_14_1, zfv_14_2, zfv_14_3, zfv_14_4, zfv_14_5, zfv_14_6, zfv_14_7, zfv_14_8, zfv_14_9, zfv_14_10, zfv_14_11, zK_15, zLn_15, zK_16, zLn_16, zK_17, zLn_17, zK_18, zLn_18, zK_19, zLn_19, zK_20, zLn_20, zK_21, zLn_21, zK_22, zLn_22, zK_23, zLn_23, zK_24, zfv_24_0, zfv_24_1, zfv_24_2, zfv_24_3, zfv_24_4, zfv_24_5, zfv_24_6, zfv_24_7, zfv_24_8, zfv_24_9, zK_25, zLn_25, zK_26, zLn_26, zK_27, zLn_27, zK_28, zLn_28, zK_29, zLn_29, zK_30, zLn_30, zK_31, zfv_31_0, zfv_31_1, zfv_31_2, zfv_31_3, zfv_31_4, zfv_31_5, zfv_31_6, zfv_31_7, zfv_31_8, zfv_31_9, zK_32, zLn_32, zK_33, zLn_33, zK_34, zLn_34, zK_35, zLn_35, zK_36, zLn_36, zK_37, zLn_37, zK_38, zfv_38_0, zfv_38_1, zfv_38_2, zfv_38_3, zfv_38_4, zfv_38_5, zfv_38_6, zfv_38_7, zfv_38_8, zfv_38_9, zK_39, zLn_39, zK_40, zLn_40, zK_41, zLn_41, zK_42, zLn_42, zK_43, zLn_43, zK_44, zLn_44, zK_45, zLn_45, zK_46, zLn_46, zK_47, zfv_47_0, zfv_47_1, zfv_47_2, zfv_47_3, zfv_47_4, zfv_47_5, zfv_47_6, zK_48, zLn_48, zK_49, zLn_49, zK_50, zLn_50, zK_51, zLn_51, zK_52, zLn_52, zK_53, zLn_53, zK_54, zLn_54, zK_55, zLn_55, zK_56, zLn_56, zK_57, zLn_57, zK_58, zLn_58, zK_59, zLn_59, zK_60, zfv_60_0, zfv_60_1, zfv_60_2, zK_61, zLn_61, zK_62, zfv_62_0, zK_63, zLn_63, zK_64, zfv_64_0, zfv_64_1, zfv_64_2, zfv_64_3, zfv_64_4, zfv_64_5, zfv_64_6, zfv_64_7, zfv_64_8, zfv_64_9, zfv_64_10, zfv_64_11, zfv_64_12, zfv_64_13, zfv_64_14, zfv_64_15, zfv_64_16, zfv_64_17, zfv_64_18, zfv_64_19, zfv_64_20, zfv_64_21, zfv_64_22, zfv_64_23, zfv_64_24, zfv_64_25, zfv_64_26, zfv_64_27, zK_65, zLn_65, zK_66, zLn_66, zK_67, zLn_67, zK_68, zLn_68, zK_69, zLn_69, zK_70, zLn_70, zK_71, zLn_71, zK_72, zLn_72, zK_73, zLn_73, zK_74, zLn_74, zK_75, zLn_75, zK_76, zLn_76, zK_77, zLn_77, zK_78, zLn_78, zK_79, zLn_79, zK_80, zLn_80, zK_81, zLn_81, h17]
  suffices H : lq x q = lq x q → Y101 (d + 1) Q 7 [(0, .ref 64), (1, .long (lN (wl x.2 q (min (q - q) 7)))), (3, .int (nI q))] [] (zwI σ 64 17 (nI q)) by
    have := H rfl
    rw [wIs h17, Nat.sub_self] at this
    exact this
  refine yup (P := fun i => lq x i = lq x q → Y101 (d + 1) Q 7 [(0, .ref 64), (1, .long (lN (wl x.2 q (min (i - q) 7)))), (3, .int (nI q))] [] (zwI σ 64 17 (nI i))) q x.1 hq ?_ ?_
  · intro el
    have ee : lq x q = x.1 := by rw [← el]; exact rn_e
    have v17 : upd (σ.1 64) 17 (nI x.1) 17 = nI x.1 := pk_us
    have v15 : upd (σ.1 64) 17 (nI x.1) 15 = nI x.1 := by rw [pk_un (by decide)]; exact e15
    have t1 : nI x.1 ≤ nI x.1 := nI_le (Nat.le_refl _) (by omega)
    unfold wN at k
    rw [ee] at k
    rw [g101_7]
    simp only [g101_8, g101_11, g101_12, g101_15, g101_18, g101_19, g101_22, g101_23, g101_26, g101_27, g101_28, g101_31, g101_34, g101_89, g101_90, zldI, zldJ, zldR, zlk, zs1, zc1, zs2, zc2, Value.category, zdup_i, zdup_r, zdup2_i, zdup2_l, zrcv, zrm, ↓reduceIte, Nat.reduceAdd, Nat.reduceEqDiff, Nat.reduceLeDiff, Nat.reduceMul, and_false, false_and, and_true, true_and, List.map_cons, List.map_nil, List.sum_cons, List.sum_nil, Option.toList_some, Option.toList_none, List.cons_append, List.nil_append, or_true, true_or, or_false, false_or, Nat.add_zero, Nat.zero_add, Nat.one_ne_zero, Nat.zero_ne_one, not_false_eq_true, not_true_eq_false, implies_true, forall_const, exists_eq_left, reduceCtorEq, false_implies, true_implies, wA1, wA2, wI1, wI2, wJ1, wJ2, wJ3, wR1, wR2, wR31, wR32, zK_0, zfv_0_0, zfv_0_1, zfv_0_2, zfv_0_3, zfv_0_4, zfv_0_5, zfv_0_6, zfv_0_7, zfv_0_8, zfv_0_9, zK_1, zfv_1_0, zfv_1_1, zfv_1_2, zfv_1_3, zfv_1_4, zfv_1_5, zfv_1_6, zK_2, zLn_2, zK_3, zLn_3, zK_4, zfv_4_0, zfv_4_1, zfv_4_2, zfv_4_3, zfv_4_4, zfv_4_5, zfv_4_6, zfv_4_7, zfv_4_8, zfv_4_9, zfv_4_10, zfv_4_11, zK_5, zLn_5, zK_6, zLn_6, zK_7, zLn_7, zK_8, zLn_8, zK_9, zLn_9, zK_10, zLn_10, zK_11, zLn_11, zK_12, zLn_12, zK_13, zLn_13, zK_14, zfv_14_0, zfv_14_1, zfv_14_2, zfv_14_3, zfv_14_4, zfv_14_5, zfv_14_6, zfv_14_7, zfv_14_8, zfv_14_9, zfv_14_10, zfv_14_11, zK_15, zLn_15, zK_16, zLn_16, zK_17, zLn_17, zK_18, zLn_18, zK_19, zLn_19, zK_20, zLn_20, zK_21, zLn_21, zK_22, zLn_22, zK_23, zLn_23, zK_24, zfv_24_0, zfv_24_1, zfv_24_2, zfv_24_3, zfv_24_4, zfv_24_5, zfv_24_6, zfv_24_7, zfv_24_8, zfv_24_9, zK_25, zLn_25, zK_26, zLn_26, zK_27, zLn_27, zK_28, zLn_28, zK_29, zLn_29, zK_30, zLn_30, zK_31, zfv_31_0, zfv_31_1, zfv_31_2, zfv_31_3, zfv_31_4, zfv_31_5, zfv_31_6, zfv_31_7, zfv_31_8, zfv_31_9, zK_32, zLn_32, zK_33, zLn_33, zK_34, zLn_34, zK_35, zLn_35, zK_36, zLn_36, zK_37, zLn_37, zK_38, zfv_38_0, zfv_38_1, zfv_38_2, zfv_38_3, zfv_38_4, zfv_38_5, zfv_38_6, zfv_38_7, zfv_38_8, zfv_38_9, zK_39, zLn_39, zK_40, zLn_40, zK_41, zLn_41, zK_42, zLn_42, zK_43, zLn_43, zK_44, zLn_44, zK_45, zLn_45, zK_46, zLn_46, zK_47, zfv_47_0, zfv_47_1, zfv_47_2, zfv_47_3, zfv_47_4, zfv_47_5, zfv_47_6, zK_48, zLn_48, zK_49, zLn_49, zK_50, zLn_50, zK_51, zLn_51, zK_52, zLn_52, zK_53, zLn_53, zK_54, zLn_54, zK_55, zLn_55, zK_56, zLn_56, zK_57, zLn_57, zK_58, zLn_58, zK_59, zLn_59, zK_60, zfv_60_0, zfv_60_1, zfv_60_2, zK_61, zLn_61, zK_62, zfv_62_0, zK_63, zLn_63, zK_64, zfv_64_0, zfv_64_1, zfv_64_2, zfv_64_3, zfv_64_4, zfv_64_5, zfv_64_6, zfv_64_7, zfv_64_8, zfv_64_9, zfv_64_10, zfv_64_11, zfv_64_12, zfv_64_13, zfv_64_14, zfv_64_15, zfv_64_16, zfv_64_17, zfv_64_18, zfv_64_19, zfv_64_20, zfv_64_21, zfv_64_22, zfv_64_23, zfv_64_24, zfv_64_25, zfv_64_26, zfv_64_27, zK_65, zLn_65, zK_66, zLn_66, zK_67, zLn_67, zK_68, zLn_68, zK_69, zLn_69, zK_70, zLn_70, zK_71, zLn_71, zK_72, zLn_72, zK_73, zLn_73, zK_74, zLn_74, zK_75, zLn_75, zK_76, zLn_76, zK_77, zLn_77, zK_78, zLn_78, zK_79, zLn_79, zK_80, zLn_80, zK_81, zLn_81, v17, v15, t1]
    exact k
  · intro i hqi hi ih el
    have v17 : upd (σ.1 64) 17 (nI i) 17 = nI i := pk_us
    have v15 : upd (σ.1 64) 17 (nI i) 15 = nI x.1 := by rw [pk_un (by decide)]; exact e15
    have t1 : ¬ nI x.1 ≤ nI i := nI_ge hi (by omega)
    have eb : σ.1 75 i = nI (x.2 i) := h.b hi
    have hbi := hx.2 i
    rw [g101_7]
    simp only [g101_8, g101_11, g101_12, g101_15, g101_18, g101_19, g101_22, g101_23, g101_26, g101_27, g101_28, g101_31, g101_34, g101_89, g101_90, zldI, zldJ, zldR, zlk, zs1, zc1, zs2, zc2, Value.category, zdup_i, zdup_r, zdup2_i, zdup2_l, zrcv, zrm, ↓reduceIte, Nat.reduceAdd, Nat.reduceEqDiff, Nat.reduceLeDiff, Nat.reduceMul, and_false, false_and, and_true, true_and, List.map_cons, List.map_nil, List.sum_cons, List.sum_nil, Option.toList_some, Option.toList_none, List.cons_append, List.nil_append, or_true, true_or, or_false, false_or, Nat.add_zero, Nat.zero_add, Nat.one_ne_zero, Nat.zero_ne_one, not_false_eq_true, not_true_eq_false, implies_true, forall_const, exists_eq_left, reduceCtorEq, false_implies, true_implies, wA1, wA2, wI1, wI2, wJ1, wJ2, wJ3, wR1, wR2, wR31, wR32, zK_0, zfv_0_0, zfv_0_1, zfv_0_2, zfv_0_3, zfv_0_4, zfv_0_5, zfv_0_6, zfv_0_7, zfv_0_8, zfv_0_9, zK_1, zfv_1_0, zfv_1_1, zfv_1_2, zfv_1_3, zfv_1_4, zfv_1_5, zfv_1_6, zK_2, zLn_2, zK_3, zLn_3, zK_4, zfv_4_0, zfv_4_1, zfv_4_2, zfv_4_3, zfv_4_4, zfv_4_5, zfv_4_6, zfv_4_7, zfv_4_8, zfv_4_9, zfv_4_10, zfv_4_11, zK_5, zLn_5, zK_6, zLn_6, zK_7, zLn_7, zK_8, zLn_8, zK_9, zLn_9, zK_10, zLn_10, zK_11, zLn_11, zK_12, zLn_12, zK_13, zLn_13, zK_14, zfv_14_0, zfv_14_1, zfv_14_2, zfv_14_3, zfv_14_4, zfv_14_5, zfv_14_6, zfv_14_7, zfv_14_8, zfv_14_9, zfv_14_10, zfv_14_11, zK_15, zLn_15, zK_16, zLn_16, zK_17, zLn_17, zK_18, zLn_18, zK_19, zLn_19, zK_20, zLn_20, zK_21, zLn_21, zK_22, zLn_22, zK_23, zLn_23, zK_24, zfv_24_0, zfv_24_1, zfv_24_2, zfv_24_3, zfv_24_4, zfv_24_5, zfv_24_6, zfv_24_7, zfv_24_8, zfv_24_9, zK_25, zLn_25, zK_26, zLn_26, zK_27, zLn_27, zK_28, zLn_28, zK_29, zLn_29, zK_30, zLn_30, zK_31, zfv_31_0, zfv_31_1, zfv_31_2, zfv_31_3, zfv_31_4, zfv_31_5, zfv_31_6, zfv_31_7, zfv_31_8, zfv_31_9, zK_32, zLn_32, zK_33, zLn_33, zK_34, zLn_34, zK_35, zLn_35, zK_36, zLn_36, zK_37, zLn_37, zK_38, zfv_38_0, zfv_38_1, zfv_38_2, zfv_38_3, zfv_38_4, zfv_38_5, zfv_38_6, zfv_38_7, zfv_38_8, zfv_38_9, zK_39, zLn_39, zK_40, zLn_40, zK_41, zLn_41, zK_42, zLn_42, zK_43, zLn_43, zK_44, zLn_44, zK_45, zLn_45, zK_46, zLn_46, zK_47, zfv_47_0, zfv_47_1, zfv_47_2, zfv_47_3, zfv_47_4, zfv_47_5, zfv_47_6, zK_48, zLn_48, zK_49, zLn_49, zK_50, zLn_50, zK_51, zLn_51, zK_52, zLn_52, zK_53, zLn_53, zK_54, zLn_54, zK_55, zLn_55, zK_56, zLn_56, zK_57, zLn_57, zK_58, zLn_58, zK_59, zLn_59, zK_60, zfv_60_0, zfv_60_1, zfv_60_2, zK_61, zLn_61, zK_62, zfv_62_0, zK_63, zLn_63, zK_64, zfv_64_0, zfv_64_1, zfv_64_2, zfv_64_3, zfv_64_4, zfv_64_5, zfv_64_6, zfv_64_7, zfv_64_8, zfv_64_9, zfv_64_10, zfv_64_11, zfv_64_12, zfv_64_13, zfv_64_14, zfv_64_15, zfv_64_16, zfv_64_17, zfv_64_18, zfv_64_19, zfv_64_20, zfv_64_21, zfv_64_22, zfv_64_23, zfv_64_24, zfv_64_25, zfv_64_26, zfv_64_27, zK_65, zLn_65, zK_66, zLn_66, zK_67, zLn_67, zK_68, zLn_68, zK_69, zLn_69, zK_70, zLn_70, zK_71, zLn_71, zK_72, zLn_72, zK_73, zLn_73, zK_74, zLn_74, zK_75, zLn_75, zK_76, zLn_76, zK_77, zLn_77, zK_78, zLn_78, zK_79, zLn_79, zK_80, zLn_80, zK_81, zLn_81, v17, v15, t1, nI_clamp (show i < 2 ^ 31 by omega), eb]
    refine ⟨vp_in_nI (by omega) (by decide), ?_⟩
    refine ycallp (c_in _ _ _ _ _) ?_
    simp only [Option.toList_some, List.cons_append, List.nil_append]
    by_cases hz : isL (x.2 i) = true
    · rw [xB, if_pos ((in_let (hx.2 i)).mpr hz)]
      have hzb := isL_b hz
      have := ih (by rw [← el]; exact (rn_t hi hz).symm)
      rw [← wII σ 64 17 (nI i) (nI (i + 1))] at this
      have ss : nI i - nI q = nI (i - q) := pk_sub hqi
      by_cases z : i - q < 7
      · have t2 : ¬ (7 : Int32) ≤ nI (i - q) := nI_ge (b := 7) z (by decide)
        have m32 : (32 : Int64) * lN (wl x.2 q (min (i - q) 7)) = lN (32 * wl x.2 q (min (i - q) 7)) := lN_mul 32 _
        have s96 : lN (32 * wl x.2 q (min (i - q) 7) + x.2 i) - 96 = lN (wl x.2 q (min (i + 1 - q) 7)) := by
          have := lN_sub (a := 32 * wl x.2 q (min (i - q) 7) + x.2 i) (b := 96) (by omega)
          rw [show min (i + 1 - q) 7 = min (i - q) 7 + 1 by omega, wl_s, show q + min (i - q) 7 = i by omega, show 32 * wl x.2 q (min (i - q) 7) + (x.2 i - 96) = 32 * wl x.2 q (min (i - q) 7) + x.2 i - 96 by omega]
          exact this
        have nl : (nI (x.2 i)).toInt64 = lN (x.2 i) := nI_l (by omega)
        rw [g101_37]
        simp only [g101_40, g101_41, g101_44, g101_45, g101_46, g101_48, g101_51, g101_54, g101_55, g101_56, g101_57, g101_60, g101_61, g101_64, g101_65, g101_66, g101_67, g101_70, g101_71, g101_74, g101_75, g101_76, g101_77, g101_78, g101_81, g101_82, g101_83, g101_86, g101_89, g101_90, zldI, zldJ, zldR, zlk, zs1, zc1, zs2, zc2, Value.category, zdup_i, zdup_r, zdup2_i, zdup2_l, zrcv, zrm, ↓reduceIte, Nat.reduceAdd, Nat.reduceEqDiff, Nat.reduceLeDiff, Nat.reduceMul, and_false, false_and, and_true, true_and, List.map_cons, List.map_nil, List.sum_cons, List.sum_nil, Option.toList_some, Option.toList_none, List.cons_append, List.nil_append, or_true, true_or, or_false, false_or, Nat.add_zero, Nat.zero_add, Nat.one_ne_zero, Nat.zero_ne_one, not_false_eq_true, not_true_eq_false, implies_true, forall_const, exists_eq_left, reduceCtorEq, false_implies, true_implies, wA1, wA2, wI1, wI2, wJ1, wJ2, wJ3, wR1, wR2, wR31, wR32, zK_0, zfv_0_0, zfv_0_1, zfv_0_2, zfv_0_3, zfv_0_4, zfv_0_5, zfv_0_6, zfv_0_7, zfv_0_8, zfv_0_9, zK_1, zfv_1_0, zfv_1_1, zfv_1_2, zfv_1_3, zfv_1_4, zfv_1_5, zfv_1_6, zK_2, zLn_2, zK_3, zLn_3, zK_4, zfv_4_0, zfv_4_1, zfv_4_2, zfv_4_3, zfv_4_4, zfv_4_5, zfv_4_6, zfv_4_7, zfv_4_8, zfv_4_9, zfv_4_10, zfv_4_11, zK_5, zLn_5, zK_6, zLn_6, zK_7, zLn_7, zK_8, zLn_8, zK_9, zLn_9, zK_10, zLn_10, zK_11, zLn_11, zK_12, zLn_12, zK_13, zLn_13, zK_14, zfv_14_0, zfv_14_1, zfv_14_2, zfv_14_3, zfv_14_4, zfv_14_5, zfv_14_6, zfv_14_7, zfv_14_8, zfv_14_9, zfv_14_10, zfv_14_11, zK_15, zLn_15, zK_16, zLn_16, zK_17, zLn_17, zK_18, zLn_18, zK_19, zLn_19, zK_20, zLn_20, zK_21, zLn_21, zK_22, zLn_22, zK_23, zLn_23, zK_24, zfv_24_0, zfv_24_1, zfv_24_2, zfv_24_3, zfv_24_4, zfv_24_5, zfv_24_6, zfv_24_7, zfv_24_8, zfv_24_9, zK_25, zLn_25, zK_26, zLn_26, zK_27, zLn_27, zK_28, zLn_28, zK_29, zLn_29, zK_30, zLn_30, zK_31, zfv_31_0, zfv_31_1, zfv_31_2, zfv_31_3, zfv_31_4, zfv_31_5, zfv_31_6, zfv_31_7, zfv_31_8, zfv_31_9, zK_32, zLn_32, zK_33, zLn_33, zK_34, zLn_34, zK_35, zLn_35, zK_36, zLn_36, zK_37, zLn_37, zK_38, zfv_38_0, zfv_38_1, zfv_38_2, zfv_38_3, zfv_38_4, zfv_38_5, zfv_38_6, zfv_38_7, zfv_38_8, zfv_38_9, zK_39, zLn_39, zK_40, zLn_40, zK_41, zLn_41, zK_42, zLn_42, zK_43, zLn_43, zK_44, zLn_44, zK_45, zLn_45, zK_46, zLn_46, zK_47, zfv_47_0, zfv_47_1, zfv_47_2, zfv_47_3, zfv_47_4, zfv_47_5, zfv_47_6, zK_48, zLn_48, zK_49, zLn_49, zK_50, zLn_50, zK_51, zLn_51, zK_52, zLn_52, zK_53, zLn_53, zK_54, zLn_54, zK_55, zLn_55, zK_56, zLn_56, zK_57, zLn_57, zK_58, zLn_58, zK_59, zLn_59, zK_60, zfv_60_0, zfv_60_1, zfv_60_2, zK_61, zLn_61, zK_62, zfv_62_0, zK_63, zLn_63, zK_64, zfv_64_0, zfv_64_1, zfv_64_2, zfv_64_3, zfv_64_4, zfv_64_5, zfv_64_6, zfv_64_7, zfv_64_8, zfv_64_9, zfv_64_10, zfv_64_11, zfv_64_12, zfv_64_13, zfv_64_14, zfv_64_15, zfv_64_16, zfv_64_17, zfv_64_18, zfv_64_19, zfv_64_20, zfv_64_21, zfv_64_22, zfv_64_23, zfv_64_24, zfv_64_25, zfv_64_26, zfv_64_27, zK_65, zLn_65, zK_66, zLn_66, zK_67, zLn_67, zK_68, zLn_68, zK_69, zLn_69, zK_70, zLn_70, zK_71, zLn_71, zK_72, zLn_72, zK_73, zLn_73, zK_74, zLn_74, zK_75, zLn_75, zK_76, zLn_76, zK_77, zLn_77, zK_78, zLn_78, zK_79, zLn_79, zK_80, zLn_80, zK_81, zLn_81, h10, v17, ss, t2, nI_clamp (show i < 2 ^ 31 by omega), eb, m32, nl, lN_add, s96, nI_1]
        exact ⟨vp_in_nI (by omega) (by decide), this⟩
      · have t2 : (7 : Int32) ≤ nI (i - q) := nI_le (a := 7) (by omega) (by omega)
        rw [show min (i + 1 - q) 7 = min (i - q) 7 by omega] at this
        rw [g101_37]
        simp only [g101_40, g101_41, g101_44, g101_45, g101_46, g101_48, g101_51, g101_54, g101_55, g101_56, g101_57, g101_60, g101_61, g101_64, g101_65, g101_66, g101_67, g101_70, g101_71, g101_74, g101_75, g101_76, g101_77, g101_78, g101_81, g101_82, g101_83, g101_86, g101_89, g101_90, zldI, zldJ, zldR, zlk, zs1, zc1, zs2, zc2, Value.category, zdup_i, zdup_r, zdup2_i, zdup2_l, zrcv, zrm, ↓reduceIte, Nat.reduceAdd, Nat.reduceEqDiff, Nat.reduceLeDiff, Nat.reduceMul, and_false, false_and, and_true, true_and, List.map_cons, List.map_nil, List.sum_cons, List.sum_nil, Option.toList_some, Option.toList_none, List.cons_append, List.nil_append, or_true, true_or, or_false, false_or, Nat.add_zero, Nat.zero_add, Nat.one_ne_zero, Nat.zero_ne_one, not_false_eq_true, not_true_eq_false, implies_true, forall_const, exists_eq_left, reduceCtorEq, false_implies, true_implies, wA1, wA2, wI1, wI2, wJ1, wJ2, wJ3, wR1, wR2, wR31, wR32, zK_0, zfv_0_0, zfv_0_1, zfv_0_2, zfv_0_3, zfv_0_4, zfv_0_5, zfv_0_6, zfv_0_7, zfv_0_8, zfv_0_9, zK_1, zfv_1_0, zfv_1_1, zfv_1_2, zfv_1_3, zfv_1_4, zfv_1_5, zfv_1_6, zK_2, zLn_2, zK_3, zLn_3, zK_4, zfv_4_0, zfv_4_1, zfv_4_2, zfv_4_3, zfv_4_4, zfv_4_5, zfv_4_6, zfv_4_7, zfv_4_8, zfv_4_9, zfv_4_10, zfv_4_11, zK_5, zLn_5, zK_6, zLn_6, zK_7, zLn_7, zK_8, zLn_8, zK_9, zLn_9, zK_10, zLn_10, zK_11, zLn_11, zK_12, zLn_12, zK_13, zLn_13, zK_14, zfv_14_0, zfv_14_1, zfv_14_2, zfv_14_3, zfv_14_4, zfv_14_5, zfv_14_6, zfv_14_7, zfv_14_8, zfv_14_9, zfv_14_10, zfv_14_11, zK_15, zLn_15, zK_16, zLn_16, zK_17, zLn_17, zK_18, zLn_18, zK_19, zLn_19, zK_20, zLn_20, zK_21, zLn_21, zK_22, zLn_22, zK_23, zLn_23, zK_24, zfv_24_0, zfv_24_1, zfv_24_2, zfv_24_3, zfv_24_4, zfv_24_5, zfv_24_6, zfv_24_7, zfv_24_8, zfv_24_9, zK_25, zLn_25, zK_26, zLn_26, zK_27, zLn_27, zK_28, zLn_28, zK_29, zLn_29, zK_30, zLn_30, zK_31, zfv_31_0, zfv_31_1, zfv_31_2, zfv_31_3, zfv_31_4, zfv_31_5, zfv_31_6, zfv_31_7, zfv_31_8, zfv_31_9, zK_32, zLn_32, zK_33, zLn_33, zK_34, zLn_34, zK_35, zLn_35, zK_36, zLn_36, zK_37, zLn_37, zK_38, zfv_38_0, zfv_38_1, zfv_38_2, zfv_38_3, zfv_38_4, zfv_38_5, zfv_38_6, zfv_38_7, zfv_38_8, zfv_38_9, zK_39, zLn_39, zK_40, zLn_40, zK_41, zLn_41, zK_42, zLn_42, zK_43, zLn_43, zK_44, zLn_44, zK_45, zLn_45, zK_46, zLn_46, zK_47, zfv_47_0, zfv_47_1, zfv_47_2, zfv_47_3, zfv_47_4, zfv_47_5, zfv_47_6, zK_48, zLn_48, zK_49, zLn_49, zK_50, zLn_50, zK_51, zLn_51, zK_52, zLn_52, zK_53, zLn_53, zK_54, zLn_54, zK_55, zLn_55, zK_56, zLn_56, zK_57, zLn_57, zK_58, zLn_58, zK_59, zLn_59, zK_60, zfv_60_0, zfv_60_1, zfv_60_2, zK_61, zLn_61, zK_62, zfv_62_0, zK_63, zLn_63, zK_64, zfv_64_0, zfv_64_1, zfv_64_2, zfv_64_3, zfv_64_4, zfv_64_5, zfv_64_6, zfv_64_7, zfv_64_8, zfv_64_9, zfv_64_10, zfv_64_11, zfv_64_12, zfv_64_13, zfv_64_14, zfv_64_15, zfv_64_16, zfv_64_17, zfv_64_18, zfv_64_19, zfv_64_20, zfv_64_21, zfv_64_22, zfv_64_23, zfv_64_24, zfv_64_25, zfv_64_26, zfv_64_27, zK_65, zLn_65, zK_66, zLn_66, zK_67, zLn_67, zK_68, zLn_68, zK_69, zLn_69, zK_70, zLn_70, zK_71, zLn_71, zK_72, zLn_72, zK_73, zLn_73, zK_74, zLn_74, zK_75, zLn_75, zK_76, zLn_76, zK_77, zLn_77, zK_78, zLn_78, zK_79, zLn_79, zK_80, zLn_80, zK_81, zLn_81, h10, v17, ss, t2, nI_1]
        exact this
    · rw [xB, if_neg (fun y => hz ((in_let (hx.2 i)).mp y))]
      have e : lq x q = i := by rw [← el]; exact rn_f (fun y => hz y.2)
      unfold wN at k
      rw [e] at k
      rw [g101_37]
      simp only [g101_40, g101_41, g101_44, g101_45, g101_46, g101_48, g101_51, g101_54, g101_55, g101_56, g101_57, g101_60, g101_61, g101_64, g101_65, g101_66, g101_67, g101_70, g101_71, g101_74, g101_75, g101_76, g101_77, g101_78, g101_81, g101_82, g101_83, g101_86, g101_89, g101_90, zldI, zldJ, zldR, zlk, zs1, zc1, zs2, zc2, Value.category, zdup_i, zdup_r, zdup2_i, zdup2_l, zrcv, zrm, ↓reduceIte, Nat.reduceAdd, Nat.reduceEqDiff, Nat.reduceLeDiff, Nat.reduceMul, and_false, false_and, and_true, true_and, List.map_cons, List.map_nil, List.sum_cons, List.sum_nil, Option.toList_some, Option.toList_none, List.cons_append, List.nil_append, or_true, true_or, or_false, false_or, Nat.add_zero, Nat.zero_add, Nat.one_ne_zero, Nat.zero_ne_one, not_false_eq_true, not_true_eq_false, implies_true, forall_const, exists_eq_left, reduceCtorEq, false_implies, true_implies, wA1, wA2, wI1, wI2, wJ1, wJ2, wJ3, wR1, wR2, wR31, wR32, zK_0, zfv_0_0, zfv_0_1, zfv_0_2, zfv_0_3, zfv_0_4, zfv_0_5, zfv_0_6, zfv_0_7, zfv_0_8, zfv_0_9, zK_1, zfv_1_0, zfv_1_1, zfv_1_2, zfv_1_3, zfv_1_4, zfv_1_5, zfv_1_6, zK_2, zLn_2, zK_3, zLn_3, zK_4, zfv_4_0, zfv_4_1, zfv_4_2, zfv_4_3, zfv_4_4, zfv_4_5, zfv_4_6, zfv_4_7, zfv_4_8, zfv_4_9, zfv_4_10, zfv_4_11, zK_5, zLn_5, zK_6, zLn_6, zK_7, zLn_7, zK_8, zLn_8, zK_9, zLn_9, zK_10, zLn_10, zK_11, zLn_11, zK_12, zLn_12, zK_13, zLn_13, zK_14, zfv_14_0, zfv_14_1, zfv_14_2, zfv_14_3, zfv_14_4, zfv_14_5, zfv_14_6, zfv_14_7, zfv_14_8, zfv_14_9, zfv_14_10, zfv_14_11, zK_15, zLn_15, zK_16, zLn_16, zK_17, zLn_17, zK_18, zLn_18, zK_19, zLn_19, zK_20, zLn_20, zK_21, zLn_21, zK_22, zLn_22, zK_23, zLn_23, zK_24, zfv_24_0, zfv_24_1, zfv_24_2, zfv_24_3, zfv_24_4, zfv_24_5, zfv_24_6, zfv_24_7, zfv_24_8, zfv_24_9, zK_25, zLn_25, zK_26, zLn_26, zK_27, zLn_27, zK_28, zLn_28, zK_29, zLn_29, zK_30, zLn_30, zK_31, zfv_31_0, zfv_31_1, zfv_31_2, zfv_31_3, zfv_31_4, zfv_31_5, zfv_31_6, zfv_31_7, zfv_31_8, zfv_31_9, zK_32, zLn_32, zK_33, zLn_33, zK_34, zLn_34, zK_35, zLn_35, zK_36, zLn_36, zK_37, zLn_37, zK_38, zfv_38_0, zfv_38_1, zfv_38_2, zfv_38_3, zfv_38_4, zfv_38_5, zfv_38_6, zfv_38_7, zfv_38_8, zfv_38_9, zK_39, zLn_39, zK_40, zLn_40, zK_41, zLn_41, zK_42, zLn_42, zK_43, zLn_43, zK_44, zLn_44, zK_45, zLn_45, zK_46, zLn_46, zK_47, zfv_47_0, zfv_47_1, zfv_47_2, zfv_47_3, zfv_47_4, zfv_47_5, zfv_47_6, zK_48, zLn_48, zK_49, zLn_49, zK_50, zLn_50, zK_51, zLn_51, zK_52, zLn_52, zK_53, zLn_53, zK_54, zLn_54, zK_55, zLn_55, zK_56, zLn_56, zK_57, zLn_57, zK_58, zLn_58, zK_59, zLn_59, zK_60, zfv_60_0, zfv_60_1, zfv_60_2, zK_61, zLn_61, zK_62, zfv_62_0, zK_63, zLn_63, zK_64, zfv_64_0, zfv_64_1, zfv_64_2, zfv_64_3, zfv_64_4, zfv_64_5, zfv_64_6, zfv_64_7, zfv_64_8, zfv_64_9, zfv_64_10, zfv_64_11, zfv_64_12, zfv_64_13, zfv_64_14, zfv_64_15, zfv_64_16, zfv_64_17, zfv_64_18, zfv_64_19, zfv_64_20, zfv_64_21, zfv_64_22, zfv_64_23, zfv_64_24, zfv_64_25, zfv_64_26, zfv_64_27, zK_65, zLn_65, zK_66, zLn_66, zK_67, zLn_67, zK_68, zLn_68, zK_69, zLn_69, zK_70, zLn_70, zK_71, zLn_71, zK_72, zLn_72, zK_73, zLn_73, zK_74, zLn_74, zK_75, zLn_75, zK_76, zLn_76, zK_77, zLn_77, zK_78, zLn_78, zK_79, zLn_79, zK_80, zLn_80, zK_81, zLn_81]
      exact k
end
