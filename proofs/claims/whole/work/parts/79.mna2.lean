/-! ===== multianewarray: a row of the kit's form ===== -/
section MNW
variable {p : Program} {l : Launch} {e : Env} {R : Room} {s : State} {m : MethodId} {args : Array Value} {below : List Frame} {meth : Method} {c : Code} {T : State} {locs : List Loc} {cells slots : Nat}
theorem mn_step (X : Stand p l e R s m args below meth c T locs cells slots) (hexec : p.tables.exec = Jvm.exec) {own : String} {index : Nat} (hown : s.vm.findClass own = some m.cls) (hclink : (Cond.classLink own index "[[J").before args s = true) {cA cJ comp : ClassId} {kA kJ : Class} (hfA : s.vm.findClass "[[J" = some cA) (hkA : s.vm.classes[cA]? = some kA) (hkindA : kA.kind = .array cJ (.array .long)) (hkJ : s.vm.classes[cJ]? = some kJ) (hkindJ : kJ.kind = .array comp .long)
    {g : JFrame} (hg : g.method = m) {rest : List Value} (hstack : g.stack = .int 6 :: .int 7 :: rest) (hdg : decode c.code g.pc = .ok (.multianewarray index 2, 4)) (hcells : cells + 8 ≤ R.cells) (hslots : slots + 49 ≤ R.slots) :
    ∃ vm₁ : Vm, Stand p l e R s m args below meth c (mnS (T.setVm vm₁) cA cJ 7) (locs ++ mnL T.heap.size 7) (cells + 8) (slots + 49) ∧ ∀ target, Steps p.tables e below ((mnS (T.setVm vm₁) cA cJ 7).setTop { g with pc := g.pc + 4, stack := .ref T.heap.size :: rest }) target → Steps p.tables e below (T.setTop g) target := by
  subst hg
  have hpl : e.platform.magicAccessors = ({} : Platform).magicAccessors := by rw [X.admits.platform]
  obtain ⟨cc, hfcc, hcl⟩ := Cond.classLink_spec hown hclink e.platform hpl
  cases hfA.symm.trans hfcc
  obtain ⟨hg₁, hwarm₁, hready₁⟩ := State.classEntry (e := e) X.warmed hcl
  generalize T.vm.noted g.method.cls index (.cls cA) = vm₁ at hg₁ hwarm₁ hready₁
  have hal : s.vm.Alike vm₁ := hwarm₁.alike
  obtain ⟨kA₁, hkA₁, heA⟩ := hal.2.2 _ _ hkA
  have hkindA₁ : kA₁.kind = .array cJ (.array .long) := by rw [heA]; exact hkindA
  obtain ⟨kJ₁, hkJ₁, heJ⟩ := hal.2.2 _ _ hkJ
  have hkindJ₁ : kJ₁.kind = .array comp .long := by rw [heJ]; exact hkindJ
  have X₁ := X.noted hwarm₁
  have hX := mn_X X₁ cA cJ
  refine ⟨vm₁, hX 7, fun target hrest => ?_⟩
  have hlim : ∀ n : Nat, n ≤ 7 → ¬ n > e.platform.arrayLengthLimit := fun n hn => by rw [Launch.admits_arrayLengthLimit X.admits]; omega
  have hroom : ∀ k, k < 7 → (mnS (T.setVm vm₁) cA cJ k).heap.size < e.platform.maxCells ∧ (mnS (T.setVm vm₁) cA cJ k).slotsUsed + 6 ≤ e.platform.maxSlots := fun k hk => by
    obtain ⟨o1, o2⟩ := (hX k).roomAbove (a := 1) (b := 6) (by omega) (by omega)
    exact ⟨o1, o2⟩
  have hroom0 : T.heap.size < e.platform.maxCells ∧ T.slotsUsed + 7 ≤ e.platform.maxSlots := by
    obtain ⟨o1, o2⟩ := X.roomAbove (a := 1) (b := 7) (by omega) (by omega)
    exact ⟨o1, o2⟩
  have htop : (T.setVm vm₁).topJava?.isSome := X₁.here.top
  jvm_step X.here [hexec, hdg]
  rw [multianewarray.sem]
  simp only [wp_bind']
  refine (W.resolveClassAt_links (t := T.setTop g) (State.method?_setTop g X.here.top) hg₁).mpr ?_
  rw [wp_bind']
  refine (W.popN 2).mpr ?_
  rw [if_neg (by decide)]
  refine ⟨g, State.topJava?_setTop' (s := T.setVm vm₁) g htop, [.int 7, .int 6], rest, rfl, hstack, ?_⟩
  have h7 : ¬ (7 : Int32) < 0 := by decide
  have h77 : (7 : Int32).toNatClampNeg = 7 := by decide
  have h70 : ¬ ((7 : Int32) == 0) = true := by decide
  simp only [List.mapM_cons, List.mapM_nil, wp_bind', wp_pure']
  rw [multianewarray.make]
  have hkA₂ : (((T.setTop g).setVm vm₁).setTop { g with stack := rest }).vm.classes[cA]? = some kA₁ := hkA₁
  simp only [wp_bind', W.ite, h7, if_false, wp_pure', W.theClass, hkA₂, Option.some.injEq, exists_eq_left', hkindA₁, h77]
  refine W.newArray_of hkA₂ hkindA₁ (hlim 7 (by decide)) (by rw [Launch.admits_maxHeapBytes X.admits]; decide) hroom0.1 hroom0.2 rfl (fun acts' => ?_)
  simp only [if_neg h70]
  rw [wp_bind', Std.Legacy.Range.forIn_eq_forIn_range']
  have e0 : (((T.setTop g).setVm vm₁).setTop { g with stack := rest }).pushCell { cls := cA, slots := Array.replicate 7 Value.null } = (mnS (T.setVm vm₁) cA cJ 0).setTop { g with stack := rest } := by
    have : ({ cls := cA, slots := Array.replicate 7 Value.null } : Cell) = arrV cA 7 (mnf T.heap.size 0) := by
      rw [arrV_new]
      exact arrV_congr (fun j _ => rfl)
    rw [this]
    show (((T.setVm vm₁).setTop g).setTop { g with stack := rest }).pushCell _ = _
    rw [State.setTop_setTop]
    rfl
  rw [e0]
  refine mn_loop (T := T.setVm vm₁) (f := { g with stack := rest }) hkA₁ hkindA₁ hkJ₁ hkindJ₁ (hlim 6 (by decide)) (by rw [Launch.admits_maxHeapBytes X.admits]; decide) hroom (fun d acts => ?_) 7 0 _ _ rfl
  simp only [wp_pure', wp_bind', W.mark, W.pushRef]
  refine ⟨{ g with stack := rest }, State.topJava?_setTop' _ (hX 7).here.top, fun acts => ?_⟩
  rw [State.setTop_setTop, afterInstr_ok]
  exact hrest
variable {H : Heap} {Q : State → Prop} {cc : ByteArray} {pc : Nat} {ls : Array Slot} {rest : List Value} {D : va_G} {cl : List vw_C} {A : Nat → Prop} {tys : List (ClassId × FieldType)} {ws : va_W} {H0 : Heap}
/-- the eight cells -/
def mnW (q : Nat) (cA cJ : ClassId) : va_W := (q, .inl (cA, 7, .inr (.inr (.inr (.inr (fun i => some (q + 1 + i))))))) :: (List.range 7).map (fun i => (q + 1 + i, .inl (cJ, 6, .inr (.inl (fun _ => 0)))))
theorem mnW_at {q : Nat} {cA cJ : ClassId} {k : Nat} {x : Nat × va_E} (h : (mnW q cA cJ)[k]? = some x) : (k = 0 ∧ x = (q, .inl (cA, 7, .inr (.inr (.inr (.inr (fun i => some (q + 1 + i)))))))) ∨ ∃ i, i < 7 ∧ k = i + 1 ∧ x = (q + 1 + i, .inl (cJ, 6, .inr (.inl (fun _ => 0)))) := by
  cases k with
  | zero => cases h; exact Or.inl ⟨rfl, rfl⟩
  | succ i =>
    have h : ((List.range 7).map (fun i => ((q + 1 + i, .inl (cJ, 6, .inr (.inl (fun _ => 0)))) : Nat × va_E)))[i]? = some x := h
    have hi : i < 7 := by
      have := (List.getElem?_eq_some_iff.mp h).1
      simpa using this
    rw [List.getElem?_map, List.getElem?_range hi] at h
    cases h
    exact Or.inr ⟨i, hi, rfl, rfl⟩
theorem va_mna (hexec : p.tables.exec = Jvm.exec) (hb : c.code = cc) {own : String} {index : Nat} (hown : s.vm.findClass own = some m.cls) (hclink : (Cond.classLink own index "[[J").before args s = true) {cA cJ comp : ClassId} {kA kJ : Class} (hfA : s.vm.findClass "[[J" = some cA) (hkA : s.vm.classes[cA]? = some kA) (hkindA : kA.kind = .array cJ (.array .long)) (hkJ : s.vm.classes[cJ]? = some kJ) (hkindJ : kJ.kind = .array comp .long)
    (hP : va_P D cl ws H) (hD : va_D A ws) (hS : va_S A H0 H locs) (hA : ∀ q, H0.size ≤ q → A q) (hcells : cells + 8 ≤ R.cells) (hslots : slots + 49 ≤ R.slots) (hdg : decode cc pc = .ok (.multianewarray index 2, 4))
    (kk : ∀ (q : Nat) (H1 : Heap) (locs1 : List Loc), va_P D cl (ws ++ mnW q cA cJ) H1 → va_D A (ws ++ mnW q cA cJ) → va_S A H0 H1 locs1 → W p l e R s m args below meth c H1 locs1 (cells + 8) (slots + 49) Q (F0 m (pc + 4) ls (.ref q :: rest))) : W p l e R s m args below meth c H locs cells slots Q (F0 m pc ls (.int 6 :: .int 7 :: rest)) := by
  intro T hT X
  obtain ⟨vm₁, X', st⟩ := mn_step X hexec hown hclink hfA hkA hkindA hkJ hkindJ (g := F0 m pc ls (.int 6 :: .int 7 :: rest)) rfl rfl (by rw [hb]; exact hdg) hcells hslots
  obtain ⟨h1, h2, h3⟩ := mn_1 (T.setVm vm₁) cA cJ 7
  have h4 := mn_new (T.setVm vm₁) cA cJ 7
  have h5 : ∀ q, q < T.heap.size → (mnS (T.setVm vm₁) cA cJ 7).heap[q]? = T.heap[q]? := fun q hq => mn_old (T.setVm vm₁) cA cJ hq 7
  have h1 : (mnS (T.setVm vm₁) cA cJ 7).heap.size = T.heap.size + 1 + 7 := h1
  have h2 : (mnS (T.setVm vm₁) cA cJ 7).heap[T.heap.size]? = some (arrV cA 7 (mnf T.heap.size 7)) := h2
  have h4 : ∀ j, j < 7 → (mnS (T.setVm vm₁) cA cJ 7).heap[T.heap.size + 1 + j]? = some (arrV cJ 6 (fun _ => .long 0)) := h4
  generalize hH1 : (mnS (T.setVm vm₁) cA cJ 7).heap = H1 at h1 h2 h4 h5
  subst hT
  have hlt : ∀ (k : Nat) (x : Nat × va_E), ws[k]? = some x → x.1 < T.heap.size := fun k x hx => (hP k x hx).lt
  have hin : ∀ (k : Nat) (x : Nat × va_E), (mnW T.heap.size cA cJ)[k]? = some x → x.1 = T.heap.size + k := fun k x hx => by
    rcases mnW_at hx with ⟨rfl, rfl⟩ | ⟨i, hi, rfl, rfl⟩
    · rfl
    · show T.heap.size + 1 + i = T.heap.size + (i + 1)
      omega
  have hAq : ∀ q, T.heap.size ≤ q → A q := fun q hq => hA q (Nat.le_trans hS.1 hq)
  have hP1 : va_P D cl (ws ++ mnW T.heap.size cA cJ) H1 := by
    refine va_P.app (hP.kept (fun k q hk => h5 q.1 (hlt k q hk))) (fun k x hx => ?_)
    rcases mnW_at hx with ⟨rfl, rfl⟩ | ⟨i, hi, rfl, rfl⟩
    · show H1[T.heap.size]? = some (vp_cell cA (7, _))
      rw [vp_cell_q, h2]
      exact congrArg some (arrV_congr (fun j hj => if_pos hj))
    · show H1[T.heap.size + 1 + i]? = some (vp_cell cJ (6, _))
      rw [vp_cell_l]
      exact h4 i hi
  have hD1 : va_D A (ws ++ mnW T.heap.size cA cJ) := by
    refine va_D.app hD ⟨fun i j p q hp hq e => ?_, fun k q hk => hAq _ (by rw [hin k q hk]; omega)⟩ (fun i j p q hp hq e => ?_)
    · have h1 := hin i p hp
      have h2 := hin j q hq
      omega
    · have h1 := hlt i p hp
      have h2 := hin j q hq
      omega
  have hS1 : va_S A H0 H1 (locs ++ mnL T.heap.size 7) := by
    refine ⟨Nat.le_trans hS.1 (by omega), fun q g1 g2 => (h5 q (Nat.lt_of_lt_of_le g1 hS.1)).trans (hS.2.1 q g1 g2), fun q hq => ?_⟩
    rcases List.mem_append.mp hq with h | h
    · exact hS.2.2 q h
    · rw [mnL_b _ 7 q h]
      exact hAq _ (Nat.le_refl _)
  obtain ⟨t, a1, b1⟩ := kk T.heap.size H1 _ hP1 hD1 hS1 _ hH1 X'
  exact ⟨t, st t a1, b1⟩
end MNW
