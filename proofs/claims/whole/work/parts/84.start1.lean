/-! ===== the start, in my words ===== -/
theorem ao_arr {args : Array Value} {s : State} (h : (Cond.arrayOver (.array .long)).before args s = true) : ∃ comp c k, s.vm.findClass (FieldType.array .long).toString = some comp ∧ s.vm.classes[c]? = some k ∧ k.kind = .array comp (.array .long) ∧ s.vm.findClass ("[" ++ (FieldType.array .long).toString) = some c := by
  unfold Cond.before Cond.holds Cond.value at h
  dsimp only at h
  have h := beq_iff_eq.mp h
  obtain ⟨comp, h1, h⟩ := Option.bind_eq_some_iff.mp h
  obtain ⟨c, h2, h⟩ := Option.bind_eq_some_iff.mp h
  obtain ⟨k, h3, h⟩ := Option.map_eq_some_iff.mp h
  refine ⟨comp, c, k, h1, h3, ?_⟩
  split at h
  · rename_i x ty hk
    obtain ⟨e1, e2⟩ := Bool.and_eq_true_iff.mp h
    have e1 := of_decide_eq_true e1
    have e2 := of_decide_eq_true e2
    obtain ⟨g1, g2, -⟩ := Array.findIdx?_eq_some_iff_getElem.mp h2
    have g3 : s.vm.classes[c] = k := (Array.getElem?_eq_some_iff.mp h3).2
    rw [g3, hk] at g2
    have g2 : x = comp := eq_of_beq g2
    exact ⟨by rw [hk, e1, g2], e2⟩
  · cases h
theorem in_inst : ∀ ci, ci < 8 → Cond.instantiable (tR ci) (tN ci) ∈ lw_tbl := by
  intro ci h
  match ci, h with
  | 0, _ => exact (List.mem_append_right _ (List.mem_of_getElem? (i := 178) (by decide +kernel)))
  | 1, _ => exact (List.mem_append_right _ (List.mem_of_getElem? (i := 214) (by decide +kernel)))
  | 2, _ => exact (List.mem_append_right _ (List.mem_of_getElem? (i := 129) (by decide +kernel)))
  | 3, _ => exact (List.mem_append_right _ (List.mem_of_getElem? (i := 232) (by decide +kernel)))
  | 4, _ => exact (List.mem_append_right _ (List.mem_of_getElem? (i := 26) (by decide +kernel)))
  | 5, _ => exact (List.mem_append_right _ (List.mem_of_getElem? (i := 57) (by decide +kernel)))
  | 6, _ => exact (List.mem_append_right _ (List.mem_of_getElem? (i := 18) (by decide +kernel)))
  | 7, _ => exact (List.mem_append_right _ (List.mem_of_getElem? (i := 716) (by decide +kernel)))
  | k + 8, h => omega
theorem st_K {args : Array Value} {s : State} (hts : ∀ w ∈ lw_tbl, w.before args s = true) : ∃ (D : va_G) (cy : Nat → ClassId), va_K D vwCl (ztys cy) s ∧ zNs cy s := by
  have hKn : ∀ ci : Nat, ∃ q : ClassId × (Nat → Nat), ci < 8 → u_Kn s (tR ci) (tF ci) (tN ci) q.1 q.2 := by
    intro ci
    by_cases h : ci < 8
    · obtain ⟨c, i, hk⟩ := u_known hts (tIn ci h) (hts _ (in_inst ci h))
      exact ⟨(c, i), fun _ => hk⟩
    · exact ⟨(0, fun _ => 0), fun z => absurd z h⟩
  obtain ⟨f, hf⟩ := Classical.axiomOfChoice hKn
  obtain ⟨cI, kI, pI, i1, i2, i3⟩ := Cond.arrayClass_spec (hts (.arrayClass .int) (List.mem_append_right _ (List.mem_of_getElem? (i := 55) (by decide +kernel))))
  obtain ⟨cB, kB, pB, b1, b2, b3⟩ := Cond.arrayClass_spec (hts (.arrayClass .byte) (List.mem_append_right _ (List.mem_of_getElem? (i := 54) (by decide +kernel))))
  obtain ⟨cZ, kZ, pZ, z1, z2, z3⟩ := Cond.arrayClass_spec (hts (.arrayClass .boolean) (List.mem_append_right _ (List.mem_of_getElem? (i := 211) (by decide +kernel))))
  obtain ⟨cL, kL, pL, l1, l2, l3⟩ := Cond.arrayClass_spec (hts (.arrayClass .long) (List.mem_append_right _ (List.mem_of_getElem? (i := 212) (by decide +kernel))))
  have hao := hts (.arrayOver (.object "SleeveSlips$Now")) (List.mem_append_right _ (List.mem_of_getElem? (i := 176) (by decide +kernel)))
  obtain ⟨cP, cN, kN, n1, -, n2, n3, n4⟩ := Cond.arrayOver_spec hao
  obtain ⟨cQ, cA, kA, a1, a2, a3, a4⟩ := ao_arr (hts (.arrayOver (.array .long)) (List.mem_append_right _ (List.mem_of_getElem? (i := 184) (by decide +kernel))))
  have eQ : cQ = cL := Option.some.inj (a1.symm.trans l1)
  subst eQ
  refine ⟨(fun k => (f k).1, fun k => (f k).2), fun k => if k = 100 then cI else if k = 101 then cB else if k = 102 then cZ else if k = 103 then cQ else if k = 104 then cN else cA, ⟨fun c q hq => ?_, fun k q hq => ?_⟩, ?_⟩
  · have hc : c < 8 := (List.getElem?_eq_some_iff.mp hq).1
    rw [tCl c hc] at hq
    cases hq
    exact hf c hc
  · have hk : k < 6 := (List.getElem?_eq_some_iff.mp hq).1
    match k, hk, hq with
    | 0, _, hq => cases hq; exact ⟨fun N z => ⟨(fun k h => by cases h), kI, i2, pI, i3⟩, i1⟩
    | 1, _, hq => cases hq; exact ⟨fun N z => ⟨(fun k h => by cases h), kB, b2, pB, b3⟩, b1⟩
    | 2, _, hq => cases hq; exact ⟨fun N z => ⟨(fun k h => by cases h), kZ, z2, pZ, z3⟩, z1⟩
    | 3, _, hq => cases hq; exact ⟨fun N z => ⟨(fun k h => by cases h), kL, l2, pL, l3⟩, l1⟩
    | 4, _, hq => cases hq; exact ⟨fun N z => ⟨(fun k h => by cases h), kN, n2, cP, n3⟩, kN, cP, n2, n3, n1, n4⟩
    | 5, _, hq => cases hq; exact ⟨fun N z => ⟨(fun k h => by cases h), kA, a2, cQ, a3⟩, a4⟩
    | k + 6, h, _ => omega
  · exact ⟨va_Nw.of rfl (hts (.methodLinkNest "SleeveSlips" 9 iy_4 "SleeveSlips") (List.mem_append_right _ (List.mem_of_getElem? (i := 27) (by decide +kernel)))), va_Nw.of rfl (hts (.methodLinkNest "SleeveSlips" 18 iy_5 "SleeveSlips") (List.mem_append_right _ (List.mem_of_getElem? (i := 58) (by decide +kernel)))), va_Nw.of rfl (hts (.methodLinkNest "SleeveSlips" 43 iy_0 "SleeveSlips") (List.mem_append_right _ (List.mem_of_getElem? (i := 179) (by decide +kernel)))), va_Nw.of rfl (hts (.methodLinkNest "SleeveSlips" 50 iy_1 "SleeveSlips") (List.mem_append_right _ (List.mem_of_getElem? (i := 215) (by decide +kernel)))), va_Nw.of rfl (hts (.methodLinkNest "SleeveSlips" 57 iy_3 "SleeveSlips") (List.mem_append_right _ (List.mem_of_getElem? (i := 233) (by decide +kernel)))), va_AO.of hao, kA, a2, a3⟩
theorem st_X {args : Array Value} {s : State} (hts : ∀ w ∈ lw_tbl, w.before args s = true) (hgv : (Jvm.Cond.and given_1 narrow_1).before args s = true) : ∃ adK : Nat → Nat, ∀ ad : Nat → Nat, (∀ i, ad (2000 + i) = adK i) → zX ad (fun q => s.heap.size ≤ q) s s.heap := by
  have hs := flat_of_before _ hgv
  have hA : ∀ a : Nat, a < s.heap.size → ¬ (fun q => s.heap.size ≤ q) a := fun a h => Nat.not_le.mpr h
  have hN : ∀ i : Nat, i < 3 → [6, 3, 5].getD i 0 < 2 ^ 31 := yl31
  have hex : ∀ i : Nat, i < 3 → (Cond.exactly ((fun i => Term.string "SleeveSlips$Text" (zsi i)) i) "java/lang/String").before args s = true := by
    intro i hi
    match i, hi with
    | 0, _ => exact hs _ (by decide +kernel)
    | 1, _ => exact hs _ (by decide +kernel)
    | 2, _ => exact hs _ (by decide +kernel)
    | k + 3, h => omega
  have hco : ∀ i : Nat, i < 3 → (Cond.eq (.field ((fun i => Term.string "SleeveSlips$Text" (zsi i)) i) "java/lang/String" "coder" "B") (.int 0)).before args s = true := by
    intro i hi
    match i, hi with
    | 0, _ => exact hs _ (by decide +kernel)
    | 1, _ => exact hs _ (by decide +kernel)
    | 2, _ => exact hs _ (by decide +kernel)
    | k + 3, h => omega
  have har : ∀ i : Nat, i < 3 → (Cond.arrayOf (.field ((fun i => Term.string "SleeveSlips$Text" (zsi i)) i) "java/lang/String" "value" "[B") .byte).before args s = true := by
    intro i hi
    match i, hi with
    | 0, _ => exact hs _ (by decide +kernel)
    | 1, _ => exact hs _ (by decide +kernel)
    | 2, _ => exact hs _ (by decide +kernel)
    | k + 3, h => omega
  have hle : ∀ i : Nat, i < 3 → (Cond.eq (.length (.field ((fun i => Term.string "SleeveSlips$Text" (zsi i)) i) "java/lang/String" "value" "[B")) (.int (Int32.ofNat ([6, 3, 5].getD i 0)))).before args s = true := by
    intro i hi
    match i, hi with
    | 0, _ => exact hs _ (by decide +kernel)
    | 1, _ => exact hs _ (by decide +kernel)
    | 2, _ => exact hs _ (by decide +kernel)
    | k + 3, h => omega
  have hel : ∀ i : Nat, i < 3 → ∀ j : Nat, j < [6, 3, 5].getD i 0 → (Cond.eq (.elem (.field ((fun i => Term.string "SleeveSlips$Text" (zsi i)) i) "java/lang/String" "value" "[B") (.int (Int32.ofNat j))) (.int ((zby.getD i []).getD j 0))).before args s = true := by
    intro i hi
    match i, hi with
    | 0, _ => 
      intro j hj
      have hj : j < 6 := hj
      match j, hj with
      | 0, _ => exact hs _ (by decide +kernel)
      | 1, _ => exact hs _ (by decide +kernel)
      | 2, _ => exact hs _ (by decide +kernel)
      | 3, _ => exact hs _ (by decide +kernel)
      | 4, _ => exact hs _ (by decide +kernel)
      | 5, _ => exact hs _ (by decide +kernel)
      | k + 6, h => omega
    | 1, _ => 
      intro j hj
      have hj : j < 3 := hj
      match j, hj with
      | 0, _ => exact hs _ (by decide +kernel)
      | 1, _ => exact hs _ (by decide +kernel)
      | 2, _ => exact hs _ (by decide +kernel)
      | k + 3, h => omega
    | 2, _ => 
      intro j hj
      have hj : j < 5 := hj
      match j, hj with
      | 0, _ => exact hs _ (by decide +kernel)
      | 1, _ => exact hs _ (by decide +kernel)
      | 2, _ => exact hs _ (by decide +kernel)
      | 3, _ => exact hs _ (by decide +kernel)
      | 4, _ => exact hs _ (by decide +kernel)
      | k + 5, h => omega
    | k + 3, h => omega
  have hne : ∀ i j : Nat, i < 3 → j < 3 → i ≠ j → (Cond.not (Cond.eq ((fun i => Term.string "SleeveSlips$Text" (zsi i)) i) ((fun i => Term.string "SleeveSlips$Text" (zsi i)) j))).before args s = true ∨ (Cond.not (Cond.eq ((fun i => Term.string "SleeveSlips$Text" (zsi i)) j) ((fun i => Term.string "SleeveSlips$Text" (zsi i)) i))).before args s = true := by
    intro i j hi hj hij
    match i, hi, j, hj, hij with
    | 0, _, 0, _, hij => exact absurd rfl hij
    | 0, _, 1, _, hij => exact Or.inl (hs _ (by decide +kernel))
    | 0, _, 2, _, hij => exact Or.inl (hs _ (by decide +kernel))
    | 1, _, 0, _, hij => exact Or.inr (hs _ (by decide +kernel))
    | 1, _, 1, _, hij => exact absurd rfl hij
    | 1, _, 2, _, hij => exact Or.inl (hs _ (by decide +kernel))
    | 2, _, 0, _, hij => exact Or.inr (hs _ (by decide +kernel))
    | 2, _, 1, _, hij => exact Or.inr (hs _ (by decide +kernel))
    | 2, _, 2, _, hij => exact absurd rfl hij
    | k + 3, h, _, _, _ => omega
    | _, _, k + 3, h, _ => omega
  obtain ⟨adK, adV, hV, hev⟩ := vk_Sof (tm := fun i => Term.string "SleeveSlips$Text" (zsi i)) (len := [6, 3, 5]) (byt := zby) (N := 3) (A := fun q => s.heap.size ≤ q) hN hex hco har hle hel hne hA
  refine ⟨adK, fun ad had => ⟨⟨adV, ?_⟩, fun i hi => ?_, ?_, ?_⟩⟩
  · have e : (fun i => ad (2000 + i)) = adK := funext had
    rw [e]
    exact hV
  · rw [had i]
    have h1 : (Cond.stringRef "SleeveSlips$Text" (zsi i) (zst i)).before args s = true := by
      match i, hi with
      | 0, _ => exact hts _ (List.mem_append_right _ (List.mem_of_getElem? (i := 319) (by decide +kernel)))
      | 1, _ => exact hts _ (List.mem_append_right _ (List.mem_of_getElem? (i := 388) (by decide +kernel)))
      | 2, _ => exact hts _ (List.mem_append_right _ (List.mem_of_getElem? (i := 397) (by decide +kernel)))
      | k + 3, h => omega
    exact vk_R.of h1 (hev i hi)
  · exact va_Zof (hts (.laysStatic "java/lang/String" "COMPACT_STRINGS" "Z") (List.mem_append_right _ (List.mem_of_getElem? (i := 333) (by decide +kernel)))) (hts (.initialized "java/lang/String") (List.mem_append_right _ (List.mem_of_getElem? (i := 11) (by decide +kernel)))) (va_eqt (hs (.eq (.static "java/lang/String" "COMPACT_STRINGS" "Z") (.int 1)) (by decide +kernel))) hA
  · exact va_Zqof (hts (.laysStatic "jdk/internal/util/Preconditions" "SIOOBE_FORMATTER" "Ljava/util/function/BiFunction;") (List.mem_append_right _ (List.mem_of_getElem? (i := 349) (by decide +kernel)))) (hts (.initialized "jdk/internal/util/Preconditions") (List.mem_append_right _ (List.mem_of_getElem? (i := 13) (by decide +kernel)))) (hs (.isRef (.static "jdk/internal/util/Preconditions" "SIOOBE_FORMATTER" "Ljava/util/function/BiFunction;")) (by decide +kernel)) hA
