/-! ===== worlds: the last cell, another order ===== -/
section ZW
variable {D : va_G} {cl : List vw_C} {A A0 : Nat → Prop} {X Y w w1 : va_W} {y : Nat × va_E} {H H0 H1 : Heap} {locs : List Loc}
theorem zw_P : va_P D cl X H ↔ ∀ q ∈ X, va_at D cl q H := by
  constructor
  · intro h q hq
    obtain ⟨k, hk⟩ := List.getElem?_of_mem hq
    exact h k q hk
  · intro h k q hk
    exact h q (List.mem_of_getElem? hk)
theorem zw_D : va_D A X ↔ (X.map (fun q => q.1)).Nodup ∧ ∀ q ∈ X, A q.1 := by
  constructor
  · intro h
    refine ⟨?_, fun q hq => ?_⟩
    · refine nd_of (fun i j a hi hj => ?_)
      rw [List.getElem?_map] at hi hj
      cases h1 : X[i]? with
      | none => rw [h1] at hi; cases hi
      | some p =>
        cases h2 : X[j]? with
        | none => rw [h2] at hj; cases hj
        | some q =>
          rw [h1] at hi
          rw [h2] at hj
          exact h.1 i j p q h1 h2 ((Option.some.inj hi).trans (Option.some.inj hj).symm)
    · obtain ⟨k, hk⟩ := List.getElem?_of_mem hq
      exact h.2 k q hk
  · rintro ⟨h1, h2⟩
    refine ⟨fun i j p q hp hq e => ?_, fun k q hk => h2 q (List.mem_of_getElem? hk)⟩
    exact xnd h1 (a := p.1) (by rw [List.getElem?_map, hp]; rfl) (by rw [List.getElem?_map, hq, e]; rfl)
theorem zw_perm (h : X.Perm Y) : (va_P D cl X H → va_P D cl Y H) ∧ (va_D A X → va_D A Y) := by
  rw [zw_P, zw_P, zw_D, zw_D]
  exact ⟨fun g q hq => g q (h.mem_iff.mpr hq), fun g => ⟨(h.map _).nodup_iff.mp g.1, fun q hq => g.2 q (h.mem_iff.mpr hq)⟩⟩
theorem zw_lastP (h : va_P D cl (X ++ [y]) H) : va_P D cl [y] H := by
  rw [zw_P] at *
  intro q hq
  exact h q (List.mem_append_right _ hq)
theorem zw_lastD (h : va_D A (X ++ [y])) : va_D A [y] := by
  rw [zw_D] at *
  refine ⟨List.nodup_cons.mpr ⟨List.not_mem_nil, List.nodup_nil⟩, fun q hq => h.2 q (List.mem_append_right _ hq)⟩
theorem zw_free (hD : va_D A0 (X ++ [y])) (hS : va_S A0 H0 H locs) (hA : ∀ q, H0.size ≤ q → A0 q) : ∀ q, va_A [y] H.size q → A0 q := by
  rintro q (⟨k, e, h⟩ | h)
  · have := (zw_D.mp hD).2 (q, e) (List.mem_append_right _ (List.mem_of_getElem? h))
    exact this
  · exact hA q (Nat.le_trans hS.1 h)
theorem zw_join (hP : va_P D cl (X ++ [y]) H) (hD : va_D A0 (X ++ [y])) (hk : ∀ q : Nat, q < H.size → ¬ va_A [y] H.size q → H1[q]? = H[q]?) (hF : ∀ q, va_A [y] H.size q → A0 q) (hP1 : va_P D cl w1 H1) (hD1 : va_D (va_A [y] H.size) w1) : va_P D cl (X ++ w1) H1 ∧ va_D A0 (X ++ w1) := by
  have hap : ∀ q ∈ X, q.1 < H.size ∧ ¬ va_A [y] H.size q.1 := fun q hq => by
    have hl : q.1 < H.size := by
      obtain ⟨k, hk⟩ := List.getElem?_of_mem (List.mem_append_left [y] hq)
      exact (hP k q hk).lt
    refine ⟨hl, ?_⟩
    rintro (⟨k, e, h⟩ | h)
    · have hy := List.mem_singleton.mp (List.mem_of_getElem? h)
      have hn := (zw_D.mp hD).1
      rw [List.map_append, List.nodup_append] at hn
      exact hn.2.2 q.1 (List.mem_map.mpr ⟨q, hq, rfl⟩) y.1 (List.mem_map.mpr ⟨y, List.mem_singleton.mpr rfl, rfl⟩) (by rw [← hy])
    · omega
  constructor
  · refine va_P.app (zw_P.mpr fun q hq => ?_) hP1
    have h0 := zw_P.mp hP q (List.mem_append_left _ hq)
    exact h0.kept (hk q.1 (hap q hq).1 (hap q hq).2)
  · refine va_D.app ?_ (hD1.weaken (fun k q _ h => hF q.1 h)) (fun i j a b ha hb e => ?_)
    · rw [zw_D] at *
      rw [List.map_append, List.nodup_append] at hD
      exact ⟨hD.1.1, fun q hq => hD.2 q (List.mem_append_left _ hq)⟩
    · exact (hap a (List.mem_of_getElem? ha)).2 (by rw [e]; exact hD1.2 j b hb)
theorem zw_swapP {a : Nat × va_E} (h : va_P D cl ((a :: Y) ++ w) H) : va_P D cl (a :: (w ++ Y)) H := (zw_perm (A := fun _ => True) ((List.Perm.cons a List.perm_append_comm : (a :: (Y ++ w)).Perm (a :: (w ++ Y))))).1 h
theorem zw_swapD {a : Nat × va_E} (h : va_D A ((a :: Y) ++ w)) : va_D A (a :: (w ++ Y)) := (zw_perm (D := (fun _ => 0, fun _ _ => 0)) (cl := []) (H := #[]) ((List.Perm.cons a List.perm_append_comm : (a :: (Y ++ w)).Perm (a :: (w ++ Y))))).2 h
theorem zw_swap2P {a b : Nat × va_E} (h : va_P D cl ((a :: b :: Y) ++ w) H) : va_P D cl (a :: b :: (w ++ Y)) H := (zw_perm (A := fun _ => True) ((List.Perm.cons a (List.Perm.cons b List.perm_append_comm) : (a :: b :: (Y ++ w)).Perm (a :: b :: (w ++ Y))))).1 h
theorem zw_swap2D {a b : Nat × va_E} (h : va_D A ((a :: b :: Y) ++ w)) : va_D A (a :: b :: (w ++ Y)) := (zw_perm (D := (fun _ => 0, fun _ _ => 0)) (cl := []) (H := #[]) ((List.Perm.cons a (List.Perm.cons b List.perm_append_comm) : (a :: b :: (Y ++ w)).Perm (a :: b :: (w ++ Y))))).2 h
end ZW
