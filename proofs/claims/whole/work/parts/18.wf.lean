/-! ===== what stays true of a now ===== -/
theorem nd_of {l : List Nat} (h : ∀ i j a : Nat, l[i]? = some a → l[j]? = some a → i = j) : l.Nodup := by
  refine List.pairwise_iff_getElem.mpr (fun i j hi hj hij e => ?_)
  have := h i j l[i] (List.getElem?_eq_getElem hi) (by rw [List.getElem?_eq_getElem hj, e])
  omega
theorem mem_at {l : List Nat} {a : Nat} (h : a ∈ l) : ∃ i : Nat, l[i]? = some a := List.getElem?_of_mem h
theorem mem_er {l : List Nat} {j x : Nat} (h : x ∈ l.eraseIdx j) : ∃ i : Nat, i ≠ j ∧ l[i]? = some x := by
  obtain ⟨i, hi⟩ := mem_at h
  rw [List.getElem?_eraseIdx] at hi
  by_cases q : i < j
  · rw [if_pos q] at hi
    exact ⟨i, by omega, hi⟩
  · rw [if_neg q] at hi
    exact ⟨i + 1, by omega, hi⟩
theorem er_mem {l : List Nat} {i j x : Nat} (h : l[i]? = some x) (hij : i ≠ j) : x ∈ l.eraseIdx j := by
  rcases Nat.lt_or_ge i j with q | q
  · exact List.mem_of_getElem? (i := i) (by rw [List.getElem?_eraseIdx, if_pos q]; exact h)
  · exact List.mem_of_getElem? (i := i - 1) (by rw [List.getElem?_eraseIdx, if_neg (by omega), show i - 1 + 1 = i by omega]; exact h)
theorem er_nd {l : List Nat} (h : l.Nodup) (j : Nat) : (l.eraseIdx j).Nodup := by
  refine nd_of fun i k a hi hk => ?_
  rw [List.getElem?_eraseIdx] at hi hk
  by_cases q1 : i < j <;> by_cases q2 : k < j
  · rw [if_pos q1] at hi; rw [if_pos q2] at hk; exact xnd h hi hk
  · rw [if_pos q1] at hi; rw [if_neg q2] at hk
    have := xnd h hi hk
    omega
  · rw [if_neg q1] at hi; rw [if_pos q2] at hk
    have := xnd h hi hk
    omega
  · rw [if_neg q1] at hi; rw [if_neg q2] at hk
    have := xnd h hi hk
    omega
theorem in_at {l : List Nat} {j x i y : Nat} (hj : j ≤ l.length) (h : (l.insertIdx j x)[i]? = some y) : (i = j ∧ y = x) ∨ (i < j ∧ l[i]? = some y) ∨ (j < i ∧ l[i - 1]? = some y) := by
  rw [List.getElem?_insertIdx] at h
  by_cases q : i < j
  · rw [if_pos q] at h
    exact Or.inr (Or.inl ⟨q, h⟩)
  · rw [if_neg q] at h
    by_cases q2 : i = j
    · rw [if_pos q2, if_pos (by omega)] at h
      cases h
      exact Or.inl ⟨q2, rfl⟩
    · rw [if_neg q2] at h
      exact Or.inr (Or.inr ⟨by omega, h⟩)
theorem in_mem {l : List Nat} {j x y : Nat} (hj : j ≤ l.length) : y ∈ l.insertIdx j x ↔ y = x ∨ y ∈ l := by
  constructor
  · intro h
    obtain ⟨i, hi⟩ := mem_at h
    rcases in_at hj hi with ⟨-, q⟩ | ⟨-, q⟩ | ⟨-, q⟩
    · exact Or.inl q
    · exact Or.inr (List.mem_of_getElem? q)
    · exact Or.inr (List.mem_of_getElem? q)
  · rintro (rfl | h)
    · exact List.mem_of_getElem? (i := j) (by rw [List.getElem?_insertIdx, if_neg (by omega), if_pos rfl, if_pos hj])
    · obtain ⟨i, hi⟩ := mem_at h
      rcases Nat.lt_or_ge i j with q | q
      · exact List.mem_of_getElem? (i := i) (by rw [List.getElem?_insertIdx, if_pos q]; exact hi)
      · exact List.mem_of_getElem? (i := i + 1) (by rw [List.getElem?_insertIdx, if_neg (by omega), if_neg (by omega)]; exact hi)
theorem in_nd {l : List Nat} {j x : Nat} (hj : j ≤ l.length) (h : l.Nodup) (hx : x ∉ l) : (l.insertIdx j x).Nodup := by
  refine nd_of fun i k a hi hk => ?_
  rcases in_at hj hi with ⟨q1, q2⟩ | ⟨q1, q2⟩ | ⟨q1, q2⟩ <;> rcases in_at hj hk with ⟨p1, p2⟩ | ⟨p1, p2⟩ | ⟨p1, p2⟩
  · omega
  · exact absurd (List.mem_of_getElem? (q2 ▸ p2)) hx
  · exact absurd (List.mem_of_getElem? (q2 ▸ p2)) hx
  · exact absurd (List.mem_of_getElem? (p2 ▸ q2)) hx
  · exact xnd h q2 p2
  · have := xnd h q2 p2
    omega
  · exact absurd (List.mem_of_getElem? (p2 ▸ q2)) hx
  · have := xnd h q2 p2
    omega
  · have := xnd h q2 p2
    omega
theorem Wf_unpin {τ : aT} {ν : aN} {p j a f : Nat} (hW : WfN τ ν) (h : (nS ν p)[j]? = some a) (h1 : f ≠ 1) (h3 : f ≤ 3) (h0 : f = 0 → nM ν a = 0) : WfN τ (nUnpin ν p j a f) := by
  obtain ⟨w1, w2, w3, w4, w5, w6, w7, w8⟩ := hW
  have hm := List.mem_of_getElem? h
  have key : ∀ q x, x ∈ nS (nUnpin ν p j a f) q ↔ x ≠ a ∧ x ∈ nS ν q := by
    intro q x
    rw [nS_un]
    by_cases e : q = p
    · subst e
      rw [if_pos rfl]
      constructor
      · intro hx
        obtain ⟨i, hi, hx⟩ := mem_er hx
        exact ⟨fun z => hi (xnd (w5 q).1 hx (z ▸ h)), List.mem_of_getElem? hx⟩
      · rintro ⟨hx, hx2⟩
        obtain ⟨i, hi⟩ := mem_at hx2
        exact er_mem hi (fun z => hx (by subst z; rw [hi] at h; cases h; rfl))
    · rw [if_neg e]
      exact ⟨fun hx => ⟨fun z => e (w6 q p a (z ▸ hx) hm), hx⟩, fun hx => hx.2⟩
  refine ⟨w1, fun x => ?_, fun x => ?_, fun q hq => ?_, fun q => ⟨?_, ?_, fun x hx => (w5 q).2.2 x ((key q x).mp hx).2⟩, fun q r x hx hy => w6 q r x ((key q x).mp hx).2 ((key r x).mp hy).2, fun x hx => ?_, fun x hx => ?_⟩
  · rw [nF_un]
    split
    · exact h3
    · exact w2 x
  · rw [nF_un]
    by_cases e : x = a
    · subst e
      rw [if_pos rfl]
      exact ⟨fun z => absurd z h1, fun ⟨q, hq⟩ => absurd rfl ((key q x).mp hq).1⟩
    · rw [if_neg e]
      exact (w3 x).trans ⟨fun ⟨q, hq⟩ => ⟨q, (key q x).mpr ⟨e, hq⟩⟩, fun ⟨q, hq⟩ => ⟨q, ((key q x).mp hq).2⟩⟩
  · apply w4 q
    intro z
    apply hq
    rw [nS_un]
    split
    · rename_i e
      rw [← e, z]
      rfl
    · exact z
  · rw [nS_un]
    split
    · exact er_nd (w5 p).1 j
    · exact (w5 q).1
  · rw [nS_un]
    split
    · rename_i e
      subst e
      rcases (w5 q).2.1 with z | z
      · left
        have := List.length_eraseIdx_le (nS ν q) j
        omega
      · right
        rw [z]
        rfl
    · exact (w5 q).2.1
  · rw [nF_un] at hx
    show nM ν x = 0
    by_cases e : x = a
    · rw [if_pos e] at hx
      rw [e]
      exact h0 hx
    · rw [if_neg e] at hx
      exact w7 x hx
  · rw [nF_un] at hx
    show 1 ≤ nM ν x ∧ nM ν x ≤ 9
    by_cases e : x = a
    · rw [if_pos e] at hx
      exact absurd hx h1
    · rw [if_neg e] at hx
      exact w8 x hx
theorem Wf_pin {τ : aT} {ν : aN} {p j a u : Nat} (hW : WfN τ ν) (hf : nF ν a ≠ 1) (ha : a < tA τ) (hp : p < tP τ) (hl : (nS ν p).length < τ.2 0 p) (hj : j ≤ (nS ν p).length) (hu : 1 ≤ u ∧ u ≤ 9) : WfN τ (nPin ν a p j u) := by
  obtain ⟨w1, w2, w3, w4, w5, w6, w7, w8⟩ := hW
  have hna : ∀ q, a ∉ nS ν q := fun q hq => hf ((w3 a).mpr ⟨q, hq⟩)
  have key : ∀ q x, x ∈ nS (nPin ν a p j u) q ↔ (q = p ∧ x = a) ∨ x ∈ nS ν q := by
    intro q x
    rw [nS_pi]
    by_cases e : q = p
    · subst e
      rw [if_pos rfl, in_mem hj]
      simp
    · rw [if_neg e]
      simp [e]
  refine ⟨w1, fun x => ?_, fun x => ?_, fun q hq => ?_, fun q => ⟨?_, ?_, fun x hx => ?_⟩, fun q r x hx hy => ?_, fun x hx => ?_, fun x hx => ?_⟩
  · rw [nF_pi]
    split
    · decide
    · exact w2 x
  · rw [nF_pi]
    by_cases e : x = a
    · subst e
      rw [if_pos rfl]
      exact ⟨fun _ => ⟨p, (key p x).mpr (Or.inl ⟨rfl, rfl⟩)⟩, fun _ => rfl⟩
    · rw [if_neg e]
      refine (w3 x).trans ⟨fun ⟨q, hq⟩ => ⟨q, (key q x).mpr (Or.inr hq)⟩, fun ⟨q, hq⟩ => ?_⟩
      rcases (key q x).mp hq with z | z
      · exact absurd z.2 e
      · exact ⟨q, z⟩
  · by_cases e : q = p
    · rw [e]; exact hp
    · apply w4 q
      intro z
      apply hq
      rw [nS_pi, if_neg e]
      exact z
  · rw [nS_pi]
    split
    · exact in_nd hj (w5 p).1 (hna p)
    · exact (w5 q).1
  · rw [nS_pi]
    split
    · rename_i e
      subst e
      left
      rw [List.length_insertIdx, if_pos hj]
      omega
    · exact (w5 q).2.1
  · rcases (key q x).mp hx with z | z
    · rw [z.2]; exact ha
    · exact (w5 q).2.2 x z
  · rcases (key q x).mp hx with z | z <;> rcases (key r x).mp hy with y | y
    · omega
    · exact absurd (z.2 ▸ y) (hna r)
    · exact absurd (y.2 ▸ z) (hna q)
    · exact w6 q r x z y
  · rw [nF_pi] at hx
    rw [nM_pi]
    by_cases e : x = a
    · rw [if_pos e] at hx
      cases hx
    · rw [if_neg e] at hx ⊢
      exact w7 x hx
  · rw [nF_pi] at hx
    rw [nM_pi]
    by_cases e : x = a
    · rw [if_pos e]; exact hu
    · rw [if_neg e] at hx ⊢
      exact w8 x hx
theorem Wf_rem {τ : aT} {ν : aN} {e : aD} (hW : WfN τ ν) : WfN τ (nRem ν e) := hW
theorem Wf_add {τ : aT} {ν : aN} {x : Int32} (hW : WfN τ ν) : WfN τ (nAdd ν x) := hW
