/-! ===== the deeds as calls ===== -/
section
variable {S : aS}
theorem ask_or {τ : aT} {ν : aN} (hW : WfN τ ν) (a : Nat) : (∃ p j : Nat, (nS ν p)[j]? = some a) ∨ nF ν a ≠ 1 := by
  by_cases h : nF ν a = 1
  · obtain ⟨p, hp⟩ := (hW.2.2.1 a).mp h
    obtain ⟨j, hj⟩ := mem_at hp
    exact Or.inl ⟨p, j, hj⟩
  · exact Or.inr h
theorem op_letOff (hW : WfS S) (x : Int32) : op S 62 113 [.int x] := by
  obtain ⟨hT, hN, hCh, hI, hX, hC⟩ := id hW
  rcases xarg x (n := tA (sT S)) (by have := hT.2.1; omega) with h | ⟨a, ha, rfl, -, -⟩
  · exact op_q (.int (-1)) hW (fun σ g => c_letOff_bad 5 x g.1 g.2.1 h) (fun σ g => m_letOff_bad 5 x hT g.1 h)
  · rcases ask_or hN a with ⟨p, j, h⟩ | h
    · exact op_n (.int (nI (nM (sN S) a))) _ hW (Wf_unpin (Wf_rem hN) h (by decide) (by decide) (fun z => absurd z (by decide))) (Ch_new hN hCh (by rfl) (Or.inr (Or.inl ⟨rfl, h, rfl, rfl, rfl⟩))) (fun σ g => c_letOff 5 g.1 hT g.2.1 hN g.2.2.1 hCh.1 h) (fun σ g => m_letOff 5 hT g.1 hN g.2.1 hCh.1 h)
    · exact op_q (.int (-2)) hW (fun σ g => c_letOff_st 5 g.1 hT g.2.1 hN g.2.2.1 ha h) (fun σ g => m_letOff_st 5 hT g.1 hN g.2.1 ha h)
theorem op_breaks (hW : WfS S) (x : Int32) : op S 63 114 [.int x] := by
  obtain ⟨hT, hN, hCh, hI, hX, hC⟩ := id hW
  rcases xarg x (n := tA (sT S)) (by have := hT.2.1; omega) with h | ⟨a, ha, rfl, -, -⟩
  · exact op_q (.int (-1)) hW (fun σ g => c_breaks_bad 5 x g.1 g.2.1 h) (fun σ g => m_breaks_bad 5 x hT g.1 h)
  · rcases ask_or hN a with ⟨p, j, h⟩ | h
    · exact op_n (.int (nI ((sT S).2 6 a))) _ hW (Wf_add (Wf_unpin (Wf_rem hN) h (by decide) (by decide) (fun z => absurd z (by decide)))) (Ch_new hN hCh (by rfl) (Or.inr (Or.inr (Or.inl ⟨rfl, h, rfl, rfl, rfl⟩)))) (fun σ g => c_breaks 5 g.1 hT g.2.1 hN g.2.2.1 hCh.1 h) (fun σ g => m_breaks 5 hT g.1 hN g.2.1 hCh.1 h)
    · exact op_q (.int (-2)) hW (fun σ g => c_breaks_st 5 g.1 hT g.2.1 hN g.2.2.1 ha h) (fun σ g => m_breaks_st 5 hT g.1 hN g.2.1 ha h)
theorem op_promise (hW : WfS S) (x : Int32) : op S 61 112 [.int x] := by
  obtain ⟨hT, hN, hCh, hI, hX, hC⟩ := id hW
  rcases xarg x (n := tA (sT S)) (by have := hT.2.1; omega) with h | ⟨a, ha, rfl, -, -⟩
  · exact op_q (.int (-1)) hW (fun σ g => c_promise_bad 5 x g.1 g.2.1 h) (fun σ g => m_promise_bad 5 x hT g.1 h)
  · by_cases h1 : nF (sN S) a ≠ 0 ∨ (sT S).2 4 a ≠ nD (sN S)
    · exact op_q (.int (-2)) hW (fun σ g => c_promise_st 5 g.1 hT g.2.1 hN g.2.2.1 ha h1) (fun σ g => m_promise_st 5 hT g.1 hN g.2.1 ha h1)
    · have hf : nF (sN S) a = 0 := by omega
      have hd : (sT S).2 4 a = nD (sN S) := by omega
      by_cases hl : (nS (sN S) ((sT S).2 3 a)).length < (sT S).2 0 ((sT S).2 3 a)
      · obtain ⟨t1, t2, t3, t4, t5⟩ := hT.2.2.2.2.1 a ha
        refine op_n (.int (nI ((nS (sN S) ((sT S).2 3 a)).length + 1))) _ hW ?_ ?_ (fun σ g => c_promise 5 g.1 hT g.2.1 hN g.2.2.1 hCh.1 ha hf hd hl) (fun σ g => m_promise 5 hT g.1 hN g.2.1 hCh.1 ha hf hd hl)
        · exact Wf_pin (Wf_rem hN) (by show nF (sN S) a ≠ 1; omega) ha t1 hl (Nat.le_refl _) t3
        · exact Ch_new hN hCh (by rfl) (Or.inl ⟨rfl, ha, hf, rfl, hl, rfl, rfl⟩)
      · exact op_q (.int (-3)) hW (fun σ g => c_promise_fu 5 g.1 hT g.2.1 hN g.2.2.1 ha hf hd hl) (fun σ g => m_promise_fu 5 hT g.1 hN g.2.1 ha hf hd hl)
theorem op_hand (hW : WfS S) (x y : Int32) : op S 64 115 [.int x, .int y] := by
  obtain ⟨hT, hN, hCh, hI, hX, hC⟩ := id hW
  rcases xarg x (n := tA (sT S)) (by have := hT.2.1; omega) with h | ⟨a, ha, rfl, -, -⟩
  · exact op_q (.int (-1)) hW (fun σ g => c_hand_bad 5 x y g.1 g.2.1 (Or.inl h)) (fun σ g => m_hand_bad 5 x y hT g.1 (Or.inl h))
  rcases xarg y (n := tP (sT S)) (by have := hT.1; omega) with h | ⟨q, hq, rfl, -, -⟩
  · exact op_q (.int (-1)) hW (fun σ g => c_hand_bad 5 _ y g.1 g.2.1 (Or.inr h)) (fun σ g => m_hand_bad 5 _ y hT g.1 (Or.inr h))
  rcases ask_or hN a with ⟨p, j, h⟩ | h
  · by_cases hpq : p = q
    · subst hpq
      have hm : a ∈ nS (sN S) p := List.mem_of_getElem? h
      exact op_q (.int (-2)) hW (fun σ g => c_hand_st 5 g.1 hT g.2.1 hN g.2.2.1 ha hq (Or.inr hm)) (fun σ g => m_hand_st 5 hT g.1 hN g.2.1 ha hq (Or.inr hm))
    · by_cases hl : (nS (sN S) q).length < (sT S).2 0 q
      · have hfa : nF (sN S) a = 1 := (hN.2.2.1 a).mpr ⟨p, List.mem_of_getElem? h⟩
        have hu := Wf_unpin (f := 3) (Wf_rem (e := (3, a, p, j, nM (sN S) a, nL (sN S))) hN) h (by decide) (by decide) (fun z => absurd z (by decide))
        refine op_n (.int (nI ((nS (sN S) q).length + 1))) _ hW ?_ ?_ (fun σ g => c_hand 5 g.1 hT g.2.1 hN g.2.2.1 hCh.1 h hq hpq hl) (fun σ g => m_hand 5 hT g.1 hN g.2.1 hCh.1 h hq hpq hl)
        · have hS : nS (nUnpin (nRem (sN S) (3, a, p, j, nM (sN S) a, nL (sN S))) p j a 3) q = nS (sN S) q := if_neg (fun z => hpq z.symm)
          refine Wf_pin hu (by rw [nF_un, if_pos rfl]; decide) ha hq (by rw [hS]; exact hl) (by rw [hS]; exact Nat.le_refl _) (hN.2.2.2.2.2.2.2 a hfa)
        · exact Ch_new hN hCh (by rfl) (Or.inr (Or.inr (Or.inr ⟨rfl, h, rfl, rfl, q, hq, hpq, hl, rfl⟩)))
      · exact op_q (.int (-3)) hW (fun σ g => c_hand_fu 5 g.1 hT g.2.1 hN g.2.2.1 h hq hpq hl) (fun σ g => m_hand_fu 5 hT g.1 hN g.2.1 h hq hpq hl)
  · exact op_q (.int (-2)) hW (fun σ g => c_hand_st 5 g.1 hT g.2.1 hN g.2.2.1 ha hq (Or.inl h)) (fun σ g => m_hand_st 5 hT g.1 hN g.2.1 ha hq (Or.inl h))
theorem op_undo (hW : WfS S) : op S 65 116 [] := by
  obtain ⟨hT, hN, hCh, hI, hX, hC⟩ := id hW
  rcases List.eq_nil_or_concat (nE (sN S)) with h | ⟨l, e, h⟩
  · exact op_q (.int (-2)) hW (fun σ g => c_undo_no 4 g.2.2.1 h) (fun σ g => m_undo_no 4 g.2.1 h)
  · have h : nE (sN S) = l ++ [e] := by rw [h, List.concat_eq_append]
    obtain ⟨c1, c2⟩ := hCh
    rw [h, List.reverse_append] at c2
    obtain ⟨ν', w1, w2, w3⟩ := c2
    have hl : l.length < 12 := by
      rw [h, List.length_append] at c1
      simp at c1
      omega
    have w4 : ∀ (l : List aD), Chn (sT S) l ν' → Chn (sT S) l (wE ν' l.reverse) := by
      intro l hl
      cases l with
      | nil => trivial
      | cons e l => exact hl
    refine op_n (.int (nI l.length)) (wE ν' l) hW w1 ⟨Nat.le_of_lt hl, ?_⟩ (fun σ g => c_undo 4 hT hN w1 h hl w2 g.2.2.1) (fun σ g => m_undo 4 hT g.1 hN w1 h hl w2 g.2.1)
    have := w4 l.reverse w3
    rw [List.reverse_reverse] at this
    exact this
theorem op_day (hW : WfS S) : op S 66 119 [] := by
  obtain ⟨hT, hN, hCh, hI, hX, hC⟩ := id hW
  by_cases h : nD (sN S) ≤ 9
  · exact op_n _ (nDay (sT S) (sN S)) hW (Wf_day hT hN h) (Ch_day rfl) (fun σ g => c_day 3 g.1 hT g.2.1 hN g.2.2.1 h) (fun σ g => m_day 3 hT g.1 hN g.2.1 h)
  · have h10 : nD (sN S) = 10 := by have := hN.1; omega
    exact op_q (.int (-2)) hW (fun σ g => c_day_no 3 g.2.2.1 h10) (fun σ g => m_day_no 3 g.2.1 h10)
end
