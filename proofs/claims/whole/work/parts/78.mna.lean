/-! ===== multianewarray [7][6] of longs, with the machine itself ===== -/
theorem arrV_congr {c : ClassId} {N : Nat} {f g : Nat → Value} (h : ∀ j, j < N → f j = g j) : arrV c N f = arrV c N g := by
  unfold arrV
  congr 2
  funext j
  exact h j.val j.isLt
/-- the row of rows, k of them made -/
def mnf (n k : Nat) : Nat → Value := fun j => if j < k then .ref (n + 1 + j) else .null
def mnS (T : State) (cA cJ : ClassId) : Nat → State
  | 0 => T.pushCell (arrV cA 7 (mnf T.heap.size 0))
  | k + 1 => ((mnS T cA cJ k).pushCell (arrV cJ 6 (fun _ => .long 0))).setCell T.heap.size (arrV cA 7 (mnf T.heap.size (k + 1)))
theorem mnf_s (n k : Nat) : updV (mnf n k) k (.ref (n + 1 + k)) = mnf n (k + 1) := by
  funext j
  unfold updV mnf
  by_cases e : j = k
  · rw [if_pos e, if_pos (by omega), e]
  · rw [if_neg e]
    by_cases z : j < k
    · rw [if_pos z, if_pos (by omega)]
    · rw [if_neg z, if_neg (by omega)]
theorem mn_1 (T : State) (cA cJ : ClassId) : ∀ k, (mnS T cA cJ k).heap.size = T.heap.size + 1 + k ∧ (mnS T cA cJ k).heap[T.heap.size]? = some (arrV cA 7 (mnf T.heap.size k)) ∧ (mnS T cA cJ k).vm = T.vm
  | 0 => ⟨by rw [mnS, size_pushCell], State.heap_pushCell_size _ _, rfl⟩
  | k + 1 => by
    obtain ⟨h1, h2, h3⟩ := mn_1 T cA cJ k
    refine ⟨by rw [mnS, size_setCell, size_pushCell, h1]; omega, ?_, h3⟩
    have hlt : T.heap.size < ((mnS T cA cJ k).pushCell (arrV cJ 6 (fun _ => .long 0))).heap.size := by rw [size_pushCell, h1]; omega
    exact heapAt_setCell_self _ hlt
theorem mn_old (T : State) (cA cJ : ClassId) {q : Nat} (hq : q < T.heap.size) : ∀ k, (mnS T cA cJ k).heap[q]? = T.heap[q]?
  | 0 => State.heap_pushCell_of_lt _ _ hq
  | k + 1 => by
    have h1 := (mn_1 T cA cJ k).1
    have hne : (T.heap.size : Nat) ≠ q := by omega
    have hlt : q < (mnS T cA cJ k).heap.size := by rw [h1]; omega
    rw [mnS, heapAt_setCell_ne _ hne, State.heap_pushCell_of_lt _ _ hlt]
    exact mn_old T cA cJ hq k
theorem mn_new (T : State) (cA cJ : ClassId) : ∀ k j, j < k → (mnS T cA cJ k).heap[T.heap.size + 1 + j]? = some (arrV cJ 6 (fun _ => .long 0))
  | 0, _, h => absurd h (Nat.not_lt_zero _)
  | k + 1, j, h => by
    have h1 := (mn_1 T cA cJ k).1
    have hne : (T.heap.size : Nat) ≠ T.heap.size + 1 + j := by omega
    rw [mnS, heapAt_setCell_ne _ hne]
    by_cases e : j = k
    · rw [e, ← h1]
      exact State.heap_pushCell_size _ _
    · have hlt : T.heap.size + 1 + j < (mnS T cA cJ k).heap.size := by rw [h1]; omega
      rw [State.heap_pushCell_of_lt _ _ hlt]
      exact mn_new T cA cJ k j (by omega)
def mnL (a : Nat) : Nat → List Loc
  | 0 => []
  | k + 1 => mnL a k ++ [⟨a, k⟩]
theorem mnL_b (a : Nat) : ∀ k, ∀ q ∈ mnL a k, q.base = a
  | 0, q, h => by cases h
  | k + 1, q, h => by
    rcases List.mem_append.mp h with h | h
    · exact mnL_b a k q h
    · rw [List.mem_singleton.mp h]
section MNX
variable {p : Program} {l : Launch} {e : Env} {R : Room} {s : State} {m : MethodId} {args : Array Value} {below : List Frame} {meth : Method} {c : Code} {T : State} {locs : List Loc} {cells slots : Nat}
theorem mn_X (X : Stand p l e R s m args below meth c T locs cells slots) (cA cJ : ClassId) : ∀ k, Stand p l e R s m args below meth c (mnS T cA cJ k) (locs ++ mnL T.heap.size k) (cells + 1 + k) (slots + 7 + 6 * k)
  | 0 => by
    have h := X.pushed (arrV cA 7 (mnf T.heap.size 0))
    rw [arrV_size] at h
    rw [show locs ++ mnL T.heap.size 0 = locs from List.append_nil _]
    exact h
  | k + 1 => by
    have ih := mn_X X cA cJ k
    obtain ⟨h1, h2, h3⟩ := mn_1 T cA cJ k
    have h := ih.pushed (arrV cJ 6 (fun _ => .long 0))
    rw [arrV_size] at h
    have hlt : T.heap.size < (mnS T cA cJ k).heap.size := by rw [h1]; omega
    have h9 := h.stored (a := T.heap.size) (cell := arrV cA 7 (mnf T.heap.size k)) (by rw [State.heap_pushCell_of_lt _ _ hlt]; exact h2) k (.ref (T.heap.size + 1 + k))
    rw [arrV_store, mnf_s, List.append_assoc] at h9
    rw [show slots + 7 + 6 * (k + 1) = slots + 7 + 6 * k + 6 by omega, show cells + 1 + (k + 1) = cells + 1 + k + 1 by omega]
    exact h9
end MNX
section MNA
variable {E : CtlPost} {e : Env}
theorem mn_row {d : Bool} {acts : List Action} {s : State} {cJ comp : ClassId} {kJ : Class} {Q : Addr → Pre} (hk : s.vm.classes[cJ]? = some kJ) (hkind : kJ.kind = .array comp .long) (hlim : ¬ 6 > e.platform.arrayLengthLimit) (hheap : ¬ 6 * componentBytes .long > e.platform.maxHeapBytes) (hcells : s.heap.size < e.platform.maxCells) (hslots : s.slotsUsed + 6 ≤ e.platform.maxSlots)
    (hq : ∀ acts', Q s.heap.size d acts' (s.pushCell (arrV cJ 6 (fun _ => .long 0)))) : wp (Jvm.Op.multianewarray.make cJ [6]) Q E e d acts s := by
  have h6 : ¬ (6 : Int32) < 0 := by decide
  have h66 : (6 : Int32).toNatClampNeg = 6 := by decide
  simp only [Jvm.Op.multianewarray.make, wp_bind', W.ite, h6, if_false, wp_pure', W.theClass, hk, Option.some.injEq, exists_eq_left', hkind, h66]
  refine W.newArray_of hk hkind hlim hheap hcells hslots rfl (fun acts' => ?_)
  have := hq acts'
  rw [← arrV_new] at this
  exact this
theorem mn_loop {T : State} {f : JFrame} {cA cJ comp : ClassId} {kA kJ : Class} {Q : PUnit → Pre} (hkA : T.vm.classes[cA]? = some kA) (hkindA : kA.kind = .array cJ (.array .long)) (hkJ : T.vm.classes[cJ]? = some kJ) (hkindJ : kJ.kind = .array comp .long) (hlim : ¬ 6 > e.platform.arrayLengthLimit) (hheap : ¬ 6 * componentBytes .long > e.platform.maxHeapBytes)
    (hroom : ∀ k, k < 7 → (mnS T cA cJ k).heap.size < e.platform.maxCells ∧ (mnS T cA cJ k).slotsUsed + 6 ≤ e.platform.maxSlots)
    (hq : ∀ d acts, Q PUnit.unit d acts ((mnS T cA cJ 7).setTop f)) : ∀ (r k : Nat) (d : Bool) (acts : List Action), k + r = 7 → wp (forIn (List.range' k r) PUnit.unit (fun i (_ : PUnit) => do
      let x ← Jvm.Op.multianewarray.make cJ [6]
      Jvm.writeLoc T.heap.size i (.ref x)
      Pure.pure (ForInStep.yield PUnit.unit))) Q E e d acts ((mnS T cA cJ k).setTop f)
  | 0, k, d, acts, hk => by
    have hk : k = 7 := by omega
    subst hk
    show wp (forIn ([] : List Nat) PUnit.unit _) Q E e d acts _
    rw [List.forIn_nil]
    exact hq d acts
  | r + 1, k, d, acts, hk => by
    obtain ⟨h1, h2, h3⟩ := mn_1 T cA cJ k
    obtain ⟨o1, o2⟩ := hroom k (by omega)
    have hlt : T.heap.size < (mnS T cA cJ k).heap.size := by rw [h1]; omega
    have h7 : k < 7 := by omega
    rw [List.range'_succ, List.forIn_cons]
    simp only [wp_bind']
    refine mn_row (s := (mnS T cA cJ k).setTop f) (by rw [State.vm_setTop, h3]; exact hkJ) hkindJ hlim hheap o1 o2 (fun acts' => ?_)
    simp only [wp_bind', W.writeLoc, wp_pure']
    refine ⟨arrV cA 7 (mnf T.heap.size k), ?_, (fun h => by cases h), ?_, ?_, ?_⟩
    · show ((mnS T cA cJ k).pushCell _).heap[T.heap.size]? = _
      rw [State.heap_pushCell_of_lt _ _ hlt]
      exact h2
    · rw [arrV_size]; exact h7
    · have hv : (((mnS T cA cJ k).setTop f).pushCell (arrV cJ 6 (fun _ => .long 0))).vm = T.vm := h3
      unfold State.fitsSlot State.slotType?
      rw [hv, show (arrV cA 7 (mnf T.heap.size k)).cls = cA from rfl, show (arrV cA 7 (mnf T.heap.size k)).vm = .none from rfl]
      simp [hkA, hkindA, fits]
    · have ih := mn_loop hkA hkindA hkJ hkindJ hlim hheap hroom hq r (k + 1) true (writeActs ⟨T.heap.size, k⟩ .plain (.ref ((mnS T cA cJ k).setTop f).heap.size) acts') (by omega)
      have es : (((mnS T cA cJ k).setTop f).pushCell (arrV cJ 6 (fun _ => .long 0))).setCell T.heap.size ((arrV cA 7 (mnf T.heap.size k)).setSlot k (.ref ((mnS T cA cJ k).setTop f).heap.size)) = (mnS T cA cJ (k + 1)).setTop f := by
        rw [State.heap_setTop, h1, arrV_store, mnf_s]
        rfl
      rw [es]
      exact ih
end MNA
