/-! ===== the cells of my machine as the kit's world ===== -/
def zcv (ad : Nat → Nat) (v : Value) : Value := match v with
  | .ref a => .ref (ad a)
  | v => v
theorem zcv_cat (ad : Nat → Nat) (v : Value) : (zcv ad v).category = v.category := by cases v <;> rfl
def zce (ad : Nat → Nat) (cy : Nat → ClassId) (σ : zSt) (c : Nat) : va_E :=
  if zK c < 8 then .inr (zK c, (List.range (tN (zK c))).map (fun k => zcv ad (zfv σ c k)))
  else if zK c < 103 then .inl (cy (zK c), zLn c, .inl (σ.1 c))
  else if zK c = 103 then .inl (cy 103, zLn c, .inr (.inl (σ.2.1 c)))
  else .inl (cy (zK c), zLn c, .inr (.inr (.inr (.inr (fun i => some (ad (zR c i)))))))
def zwl (ad : Nat → Nat) (cy : Nat → ClassId) (σ : zSt) : va_W := (List.range 82).map (fun c => (ad c, zce ad cy σ c))
theorem zwl_at {ad : Nat → Nat} {cy : Nat → ClassId} {σ : zSt} {c : Nat} (h : c < 82) : (zwl ad cy σ)[c]? = some (ad c, zce ad cy σ c) := by
  unfold zwl
  rw [List.getElem?_map, List.getElem?_range h]
  rfl
theorem zwl_inv {ad : Nat → Nat} {cy : Nat → ClassId} {σ : zSt} {k : Nat} {q : Nat × va_E} (h : (zwl ad cy σ)[k]? = some q) : k < 82 ∧ q = (ad k, zce ad cy σ k) := by
  have hk : k < 82 := by
    have := (List.getElem?_eq_some_iff.mp h).1
    simpa [zwl] using this
  rw [zwl_at hk] at h
  cases h
  exact ⟨hk, rfl⟩
theorem zwl_set {ad : Nat → Nat} {cy : Nat → ClassId} {σ σ' : zSt} {c : Nat} {e : va_E} (hc : c < 82) (he : zce ad cy σ' c = e) (ho : ∀ c', c' ≠ c → zce ad cy σ' c' = zce ad cy σ c') : (zwl ad cy σ).set c (ad c, e) = zwl ad cy σ' := by
  apply List.ext_getElem?
  intro k
  by_cases hk : k < 82
  · by_cases hkc : k = c
    · subst hkc
      rw [List.getElem?_set_self (by simpa [zwl] using hk), zwl_at hk, he]
    · rw [List.getElem?_set_ne (Ne.symm hkc), zwl_at hk, zwl_at hk, ho k hkc]
  · rw [List.getElem?_eq_none (by simp [zwl]; omega), List.getElem?_eq_none (by simp [zwl]; omega)]
def zDj (A : Nat → Prop) (ad : Nat → Nat) : Prop := (∀ i j, i < 82 → j < 82 → ad i = ad j → i = j) ∧ ∀ i, i < 82 → A (ad i)
theorem zDj.D {A : Nat → Prop} {ad : Nat → Nat} {cy : Nat → ClassId} {σ : zSt} (h : zDj A ad) : va_D A (zwl ad cy σ) := by
  refine ⟨fun i j p q hi hj hpq => ?_, fun k q hk => ?_⟩
  · obtain ⟨h1, rfl⟩ := zwl_inv hi
    obtain ⟨h2, rfl⟩ := zwl_inv hj
    exact h.1 i j h1 h2 hpq
  · obtain ⟨h1, rfl⟩ := zwl_inv hk
    exact h.2 k h1
def zA (ad : Nat → Nat) (sz : Nat) : Nat → Prop := fun q => (∃ c, c < 82 ∧ ad c = q) ∨ sz ≤ q
theorem zA.mono {ad : Nat → Nat} {a b : Nat} (h : b ≤ a) : ∀ q, zA ad a q → zA ad b q := by
  rintro q (h1 | h1)
  · exact Or.inl h1
  · exact Or.inr (Nat.le_trans h h1)
def ztys (cy : Nat → ClassId) : List (ClassId × FieldType) := [(cy 100, .int), (cy 101, .byte), (cy 102, .boolean), (cy 103, .long), (cy 104, .object RX2), (cy 105, .array .long)]
theorem zK_lt {c : Nat} (h : zK c ≠ 999) : c < 82 := by
  by_cases hc : c < 82
  · exact hc
  · exfalso
    apply h
    unfold zK
    rw [List.getD_eq_getElem?_getD, List.getElem?_eq_none (by show 82 ≤ c; omega)]
    rfl
section ZC
variable {ad : Nat → Nat} {cy : Nat → ClassId} {σ : zSt} {c : Nat}
theorem zce_obj {ci : Nat} (h : zK c = ci) (h8 : ci < 8) : zce ad cy σ c = .inr (ci, (List.range (tN ci)).map (fun k => zcv ad (zfv σ c k))) := by
  unfold zce
  rw [h, if_pos h8]
theorem zce_i {k : Nat} (h : zK c = k) (h1 : ¬ k < 8) (h2 : k < 103) : zce ad cy σ c = .inl (cy k, zLn c, .inl (σ.1 c)) := by
  unfold zce
  rw [h, if_neg h1, if_pos h2]
theorem zce_l (h : zK c = 103) : zce ad cy σ c = .inl (cy 103, zLn c, .inr (.inl (σ.2.1 c))) := by
  unfold zce
  rw [h, if_neg (by decide), if_neg (by decide), if_pos rfl]
theorem zce_r {k : Nat} (h : zK c = k) (h1 : 103 < k) : zce ad cy σ c = .inl (cy k, zLn c, .inr (.inr (.inr (.inr (fun i => some (ad (zR c i))))))) := by
  unfold zce
  rw [h, if_neg (by omega), if_neg (by omega), if_neg (by omega)]
theorem zfv_wA {c' : Nat} {f : Nat → Int32} (h : c' ≠ c) (k : Nat) : zfv (zwA σ c f) c' k = zfv σ c' k := by
  unfold zfv zrf zwA
  simp [h]
theorem zce_wA {c' : Nat} {f : Nat → Int32} (h : c' ≠ c) : zce ad cy (zwA σ c f) c' = zce ad cy σ c' := by
  unfold zce
  simp only [zfv_wA h]
  simp only [zwA, if_neg h]
theorem zfv_wL {c' : Nat} {f : Nat → Int64} (h : c' ≠ c) (k : Nat) : zfv (zwL σ c f) c' k = zfv σ c' k := by
  unfold zfv zrf zwL
  simp [h]
theorem zce_wL {c' : Nat} {f : Nat → Int64} (h : c' ≠ c) : zce ad cy (zwL σ c f) c' = zce ad cy σ c' := by
  unfold zce
  simp only [zfv_wL h]
  simp only [zwL, if_neg h]
theorem zfv_wR {c' k v : Nat} (h : c' ≠ 0) (j : Nat) : zfv (zwR σ k v) c' j = zfv σ c' j := by
  unfold zfv zrf zwR
  simp [h]
theorem zce_wR {c' k v : Nat} (h : c' ≠ 0) : zce ad cy (zwR σ k v) c' = zce ad cy σ c' := by
  unfold zce
  simp only [zfv_wR h]
  simp only [zwR]
theorem zrange_set {N k : Nat} {g g' : Nat → Value} {v : Value} (hv : g' k = v) (ho : ∀ j, j ≠ k → g' j = g j) : ((List.range N).map g).set k v = (List.range N).map g' := by
  apply List.ext_getElem?
  intro j
  by_cases hj : j < N
  · by_cases hk : j = k
    · subst hk
      rw [List.getElem?_set_self (by simpa using hj), List.getElem?_map, List.getElem?_range hj, ← hv]
      rfl
    · rw [List.getElem?_set_ne (Ne.symm hk), List.getElem?_map, List.getElem?_map, List.getElem?_range hj]
      simp [ho j hk]
  · rw [List.getElem?_eq_none (by simp; omega), List.getElem?_eq_none (by simp; omega)]
theorem zrange_at {N k : Nat} {g : Nat → Value} (h : k < N) : ((List.range N).map g)[k]? = some (g k) := by
  rw [List.getElem?_map, List.getElem?_range h]
  rfl
theorem zobj_wI {ci k : Nat} {v : Int32} (h : zK c = ci) (h8 : ci < 8) (ht : zT ci k = 0) : zce ad cy (zwI σ c k v) c = .inr (ci, ((List.range (tN ci)).map (fun k => zcv ad (zfv σ c k))).set k (.int v)) := by
  rw [zce_obj h h8]
  congr 2
  refine (zrange_set ?_ (fun j hj => ?_)).symm
  · show zcv ad (zfv (zwI σ c k v) c k) = _
    unfold zfv
    rw [h, ht]
    simp [zwI, zwA, upd, zcv]
  · show zcv ad (zfv (zwI σ c k v) c j) = zcv ad (zfv σ c j)
    congr 1
    unfold zfv zrf
    simp [zwI, zwA, upd, hj]
theorem zobj_wJ {ci k : Nat} {v : Int64} (h : zK c = ci) (h8 : ci < 8) (ht : zT ci k = 1) : zce ad cy (zwJ σ c k v) c = .inr (ci, ((List.range (tN ci)).map (fun k => zcv ad (zfv σ c k))).set k (.long v)) := by
  rw [zce_obj h h8]
  congr 2
  refine (zrange_set ?_ (fun j hj => ?_)).symm
  · show zcv ad (zfv (zwJ σ c k v) c k) = _
    unfold zfv
    rw [h, ht]
    simp [zwJ, zwL, vp_updL, zcv]
  · show zcv ad (zfv (zwJ σ c k v) c j) = zcv ad (zfv σ c j)
    congr 1
    unfold zfv zrf
    simp [zwJ, zwL, vp_updL, hj]
theorem zobj_wR {k v : Nat} (hk : k = 1 ∨ k = 2) : zce ad cy (zwR σ k v) 0 = .inr (6, ((List.range (tN 6)).map (fun k => zcv ad (zfv σ 0 k))).set k (.ref (ad v))) := by
  rw [zce_obj (ci := 6) rfl (by decide)]
  congr 2
  refine (zrange_set ?_ (fun j hj => ?_)).symm
  · show zcv ad (zfv (zwR σ k v) 0 k) = _
    rcases hk with rfl | rfl <;> rfl
  · show zcv ad (zfv (zwR σ k v) 0 j) = zcv ad (zfv σ 0 j)
    congr 1
    unfold zfv zrf zwR
    rcases hk with rfl | rfl
    · by_cases h2 : j = 2 <;> simp [hj, h2]
    · by_cases h2 : j = 1 <;> simp [hj, h2]
end ZC
/-! locals -/
def zcl (ad : Nat → Nat) (lv : zLv) : zLv := lv.map (fun q => (q.1, zcv ad q.2))
theorem zlk_mem : ∀ {lv : zLv} {i : Nat} {v : Value}, zlk lv i = some v → (i, v) ∈ lv
  | [], _, _, h => by cases h
  | q :: l, i, v, h => by
    unfold zlk at h
    by_cases hq : q.1 = i
    · rw [if_pos hq] at h
      cases h
      rw [← hq]
      exact List.mem_cons_self
    · rw [if_neg hq] at h
      exact List.mem_cons_of_mem _ (zlk_mem h)
theorem zc1_mem {i : Nat} : ∀ {l : zLv} {q : Nat × Value}, q ∈ zc1 i l → q ∈ l ∧ q.1 ≠ i ∧ ¬ (q.1 + 1 = i ∧ q.2.category = 2)
  | [], q, h => by cases h
  | x :: l, q, h => by
    unfold zc1 at h
    split at h
    · exact ⟨List.mem_cons_of_mem _ (zc1_mem h).1, (zc1_mem h).2⟩
    · split at h
      · exact ⟨List.mem_cons_of_mem _ (zc1_mem h).1, (zc1_mem h).2⟩
      · rcases List.mem_cons.mp h with rfl | h
        · exact ⟨List.mem_cons_self, by assumption, by assumption⟩
        · exact ⟨List.mem_cons_of_mem _ (zc1_mem h).1, (zc1_mem h).2⟩
theorem zs1_mem {i : Nat} {v : Value} : ∀ {l : zLv} {q : Nat × Value}, q ∈ zs1 i v l → q = (i, v) ∨ (q ∈ l ∧ q.1 ≠ i ∧ ¬ (q.1 + 1 = i ∧ q.2.category = 2))
  | [], q, h => Or.inl (List.mem_singleton.mp h)
  | x :: l, q, h => by
    unfold zs1 at h
    split at h
    · rcases List.mem_cons.mp h with h | h
      · exact Or.inl h
      · exact Or.inr ⟨List.mem_cons_of_mem _ (zc1_mem h).1, (zc1_mem h).2⟩
    · split at h
      · rcases zs1_mem h with h | h
        · exact Or.inl h
        · exact Or.inr ⟨List.mem_cons_of_mem _ h.1, h.2⟩
      · rcases List.mem_cons.mp h with rfl | h
        · exact Or.inr ⟨List.mem_cons_self, by assumption, by assumption⟩
        · rcases zs1_mem h with h | h
          · exact Or.inl h
          · exact Or.inr ⟨List.mem_cons_of_mem _ h.1, h.2⟩
theorem zc2_mem {i : Nat} : ∀ {l : zLv} {q : Nat × Value}, q ∈ zc2 i l → q ∈ l ∧ q.1 ≠ i ∧ q.1 ≠ i + 1 ∧ ¬ (q.1 + 1 = i ∧ q.2.category = 2)
  | [], q, h => by cases h
  | x :: l, q, h => by
    unfold zc2 at h
    split at h
    · exact ⟨List.mem_cons_of_mem _ (zc2_mem h).1, (zc2_mem h).2⟩
    · split at h
      · exact ⟨List.mem_cons_of_mem _ (zc2_mem h).1, (zc2_mem h).2⟩
      · split at h
        · exact ⟨List.mem_cons_of_mem _ (zc2_mem h).1, (zc2_mem h).2⟩
        · rcases List.mem_cons.mp h with rfl | h
          · exact ⟨List.mem_cons_self, by assumption, by assumption, by assumption⟩
          · exact ⟨List.mem_cons_of_mem _ (zc2_mem h).1, (zc2_mem h).2⟩
theorem zs2_mem {i : Nat} {v : Value} : ∀ {l : zLv} {q : Nat × Value}, q ∈ zs2 i v l → q = (i, v) ∨ (q ∈ l ∧ q.1 ≠ i ∧ q.1 ≠ i + 1 ∧ ¬ (q.1 + 1 = i ∧ q.2.category = 2))
  | [], q, h => Or.inl (List.mem_singleton.mp h)
  | x :: l, q, h => by
    unfold zs2 at h
    split at h
    · rcases List.mem_cons.mp h with h | h
      · exact Or.inl h
      · exact Or.inr ⟨List.mem_cons_of_mem _ (zc2_mem h).1, (zc2_mem h).2⟩
    · split at h
      · rcases zs2_mem h with h | h
        · exact Or.inl h
        · exact Or.inr ⟨List.mem_cons_of_mem _ h.1, h.2⟩
      · split at h
        · rcases zs2_mem h with h | h
          · exact Or.inl h
          · exact Or.inr ⟨List.mem_cons_of_mem _ h.1, h.2⟩
        · rcases List.mem_cons.mp h with rfl | h
          · exact Or.inr ⟨List.mem_cons_self, by assumption, by assumption, by assumption⟩
          · rcases zs2_mem h with h | h
            · exact Or.inl h
            · exact Or.inr ⟨List.mem_cons_of_mem _ h.1, h.2⟩
theorem zhas_at {ad : Nat → Nat} {ls : Array Slot} {n : Nat} {lv : zLv} {i : Nat} {v : Value} (h : lv_has ls n (zcl ad lv)) (hk : zlk lv i = some v) : ls[i]? = some (.val (zcv ad v)) :=
  h.2.2 (i, zcv ad v) (List.mem_map.mpr ⟨(i, v), zlk_mem hk, rfl⟩)
theorem zhas_s1 {ad : Nat → Nat} {ls : Array Slot} {n : Nat} {lv : zLv} {i : Nat} {v : Value} (h : lv_has ls n ((i, zcv ad v) :: (zcl ad lv).filter (fun q => !(q.1 == i) && !(q.1 + 1 == i && q.2.category == 2)))) : lv_has ls n (zcl ad (zs1 i v lv)) := by
  refine ⟨h.1, h.2.1, fun q hq => h.2.2 q ?_⟩
  obtain ⟨x, hx, rfl⟩ := List.mem_map.mp hq
  rcases zs1_mem hx with rfl | ⟨h1, h2, h3⟩
  · exact List.mem_cons_self
  · refine List.mem_cons_of_mem _ (List.mem_filter.mpr ⟨List.mem_map.mpr ⟨x, h1, rfl⟩, ?_⟩)
    simp only [zcv_cat]
    simp only [Bool.and_eq_true, Bool.not_eq_true', beq_eq_false_iff_ne, Bool.and_eq_false_iff]
    refine ⟨h2, ?_⟩
    by_cases e : x.1 + 1 = i
    · exact Or.inr (fun z => h3 ⟨e, z⟩)
    · exact Or.inl e
theorem zhas_s2 {ad : Nat → Nat} {ls : Array Slot} {n : Nat} {lv : zLv} {i : Nat} {v : Value} (h : lv_has ls n ((i, zcv ad v) :: (zcl ad lv).filter (fun q => !(q.1 == i) && (!(q.1 == i + 1) && !(q.1 + 1 == i && q.2.category == 2))))) : lv_has ls n (zcl ad (zs2 i v lv)) := by
  refine ⟨h.1, h.2.1, fun q hq => h.2.2 q ?_⟩
  obtain ⟨x, hx, rfl⟩ := List.mem_map.mp hq
  rcases zs2_mem hx with rfl | ⟨h1, h2, h2b, h3⟩
  · exact List.mem_cons_self
  · refine List.mem_cons_of_mem _ (List.mem_filter.mpr ⟨List.mem_map.mpr ⟨x, h1, rfl⟩, ?_⟩)
    simp only [zcv_cat]
    simp only [Bool.and_eq_true, Bool.not_eq_true', beq_eq_false_iff_ne, Bool.and_eq_false_iff]
    refine ⟨h2, h2b, ?_⟩
    by_cases e : x.1 + 1 = i
    · exact Or.inr (fun z => h3 ⟨e, z⟩)
    · exact Or.inl e
theorem zldI_e {lv : zLv} {i : Nat} {F : Int32 → Prop} (h : zldI lv i F) : ∃ x, zlk lv i = some (.int x) ∧ F x := by
  unfold zldI at h
  split at h
  · exact ⟨_, by assumption, h⟩
  · exact h.elim
theorem zldJ_e {lv : zLv} {i : Nat} {F : Int64 → Prop} (h : zldJ lv i F) : ∃ x, zlk lv i = some (.long x) ∧ F x := by
  unfold zldJ at h
  split at h
  · exact ⟨_, by assumption, h⟩
  · exact h.elim
theorem zldR_e {lv : zLv} {i : Nat} {F : Nat → Prop} (h : zldR lv i F) : ∃ x, zlk lv i = some (.ref x) ∧ F x := by
  unfold zldR at h
  split at h
  · exact ⟨_, by assumption, h⟩
  · exact h.elim
theorem zpI_e {st : List Value} {F : Int32 → List Value → Prop} (h : zpI st F) : ∃ x r, st = .int x :: r ∧ F x r := by
  unfold zpI at h
  split at h
  · exact ⟨_, _, rfl, h⟩
  · exact h.elim
theorem zpJ_e {st : List Value} {F : Int64 → List Value → Prop} (h : zpJ st F) : ∃ x r, st = .long x :: r ∧ F x r := by
  unfold zpJ at h
  split at h
  · exact ⟨_, _, rfl, h⟩
  · exact h.elim
theorem zpR_e {st : List Value} {F : Nat → List Value → Prop} (h : zpR st F) : ∃ x r, st = .ref x :: r ∧ F x r := by
  unfold zpR at h
  split at h
  · exact ⟨_, _, rfl, h⟩
  · exact h.elim
theorem zpN_e {st : List Value} {F : Prop} (h : zpN st F) : st = [] ∧ F := by
  unfold zpN at h
  split at h
  · exact ⟨rfl, h⟩
  · exact h.elim
theorem zpop_e : ∀ {n : Nat} {acc st : List Value} {F : List Value → List Value → Prop}, zpop n acc st F → ∃ as r, as.length = n ∧ st = as.reverse ++ r ∧ F (as ++ acc) r
  | 0, acc, st, F, h => ⟨[], st, rfl, rfl, by unfold zpop at h; exact h⟩
  | n + 1, acc, [], F, h => by unfold zpop at h; exact h.elim
  | n + 1, acc, v :: st, F, h => by
    unfold zpop at h
    obtain ⟨as, r, h1, h2, h3⟩ := zpop_e h
    refine ⟨as ++ [v], r, by simp [h1], by simp [h2], ?_⟩
    rw [List.append_assoc]
    exact h3
/-! the strings of the class, and two statics of the JDK -/
def zby : List (List Int32) := [[112, 101, 114, 115, 111, 110], [97, 115, 107], [104, 97, 110, 103, 115]]
def zX (ad : Nat → Nat) (A : Nat → Prop) (U : State) (H : Heap) : Prop :=
  (∃ adV : Nat → Nat, vk_S 3 [6, 3, 5] zby (fun i => ad (2000 + i)) adV A U H) ∧ (∀ i, i < 3 → vk_R RX4 (zsi i) (zst i) (ad (2000 + i)) U) ∧ va_Z "java/lang/String" "COMPACT_STRINGS" "Z" (.int 1) A U H ∧ va_Zq "jdk/internal/util/Preconditions" "SIOOBE_FORMATTER" "Ljava/util/function/BiFunction;" A U H
theorem zX.narrow {ad : Nat → Nat} {A B : Nat → Prop} {U : State} {H : Heap} (h : zX ad A U H) (hAB : ∀ q, B q → A q) : zX ad B U H := by
  obtain ⟨⟨adV, h1⟩, h2, h3, h4⟩ := h
  exact ⟨⟨adV, h1.narrow hAB⟩, h2, h3.narrow hAB, h4.narrow hAB⟩
theorem zX.kept {ad : Nat → Nat} {A : Nat → Prop} {U : State} {H H1 : Heap} (h : zX ad A U H) (hq : ∀ a : Nat, a < H.size → ¬ A a → H1[a]? = H[a]?) : zX ad A U H1 := by
  obtain ⟨⟨adV, h1⟩, h2, h3, h4⟩ := h
  exact ⟨⟨adV, h1.kept hq⟩, h2, h3.kept hq, h4.kept hq⟩
theorem zX.warm {ad : Nat → Nat} {A : Nat → Prop} {s U : State} {H : Heap} (hW : s.WarmedH U.vm) (h : zX ad A s H) : zX ad A U H := by
  obtain ⟨⟨adV, h1⟩, h2, h3, h4⟩ := h
  exact ⟨⟨adV, vk_S.moved hW.alike h1⟩, fun i hi => (h2 i hi).warm hW, va_Z.moved hW.alike h3, va_Zq.moved hW.alike h4⟩
theorem zX.same {ad : Nat → Nat} {A : Nat → Prop} {s U : State} {H : Heap} (hv : U.vm = s.vm) (h : zX ad A s H) : zX ad A U H := by
  obtain ⟨⟨adV, h1⟩, h2, h3, h4⟩ := h
  have ha : s.vm.Alike U.vm := by rw [hv]; exact Vm.Alike.refl _
  exact ⟨⟨adV, vk_S.moved ha h1⟩, fun i hi => (h2 i hi).same hv, va_Z.moved ha h3, va_Zq.moved ha h4⟩
/-! a contract of my machine -/
def zws (m : Nat) : List Cond := Cond.code (mY m) (mC m) (mL m) (mR m) :: ztb
def zPre (ad : Nat → Nat) (cy : Nat → ClassId) (D : va_G) (sz : Nat) (as : List Value) (σ : zSt) : Array Value → State → Prop := va_Pc (as.map (zcv ad)) (fun U => U.heap.size = sz ∧ va_P D vwCl (zwl ad cy σ) U.heap ∧ va_K D vwCl (ztys cy) U ∧ zDj (fun _ => True) ad ∧ zX ad (zA ad sz) U U.heap)
def zPost (ad : Nat → Nat) (cy : Nat → ClassId) (D : va_G) (sz : Nat) (r : Option Value) (σ' : zSt) : Array Value → State → Outcome → State → Prop := fun _ st oc t => (oc = .returned (r.map (zcv ad)) ∧ va_P D vwCl (zwl ad cy σ') t.heap) ∧ va_F (zA ad sz) st t
theorem zPre.blind {ad : Nat → Nat} {cy : Nat → ClassId} {D : va_G} {sz : Nat} {as : List Value} {σ : zSt} : FrameBlind (zPre ad cy D sz as σ) := by
  intro a U g mk q
  obtain ⟨q0, q1, qP, qK, qD, qX⟩ := q
  exact ⟨q0, q1, qP, va_K.moved (u := U) (U := U.calling g mk a) (Vm.Alike.refl U.vm) qK, qD, zX.same (s := U) (U := U.calling g mk a) rfl qX⟩
def zrm_room (d : Nat) : Room := { frames := d, cells := 0, slots := 0, locals := 35 * d }
