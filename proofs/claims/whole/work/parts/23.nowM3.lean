/-! ===== what single stores do to the model's now ===== -/
def nDel (ν : aN) (p j : Nat) : aN := (ν.1, nF ν, nM ν, fun q => if q = p then (nS ν p).eraseIdx j else nS ν q, nE ν)
def nFat (ν : aN) (a f : Nat) : aN := (ν.1, fun x => if x = a then f else nF ν x, nM ν, nS ν, nE ν)
def nLef (ν : aN) (a u : Nat) : aN := (ν.1, nF ν, fun x => if x = a then u else nM ν x, nS ν, nE ν)
def nIns (ν : aN) (a p j : Nat) : aN := (ν.1, fun x => if x = a then 1 else nF ν x, nM ν, fun q => if q = p then (nS ν p).insertIdx j a else nS ν q, nE ν)
theorem nUnpin_eq (ν : aN) (p j a f : Nat) : nFat (nDel ν p j) a f = nUnpin ν p j a f := rfl
theorem nPin_eq (ν : aN) (a p j u : Nat) : nLef (nIns ν a p j) a u = nPin ν a p j u := rfl
theorem nPin_eq2 (ν : aN) (a p j : Nat) : nPin ν a p j (nM ν a) = nIns ν a p j := by
  unfold nPin nIns
  congr 3
  funext x
  split
  · rename_i h; rw [h]
  · rfl
theorem Rw_fat {ν : aN} {f : Nat → Int32} {a v : Nat} (h : Rw 0 ν f) (hl : ∀ p, (nS ν p).length ≤ 5) (ha : a < 8) : Rw 0 (nFat ν a v) (upd f (3 + a) (nI v)) := by
  obtain ⟨r1, r2, r3, r4⟩ := h
  simp only [Nat.zero_add] at r1 r2 r3 r4
  refine ⟨?_, fun x hx => ?_, fun p hp => ⟨?_, fun i y hi => ?_⟩, fun k e hk => ?_⟩
  · simp only [Nat.zero_add]
    repeat rw [pk_un (by omega)]
    exact r1
  · simp only [Nat.zero_add]
    rw [pk_un (show 11 + x ≠ 3 + a by omega)]
    refine ⟨?_, (r2 x hx).2⟩
    show _ = nI (if x = a then v else nF ν x)
    by_cases e : x = a
    · subst e
      rw [pk_us, if_pos rfl]
    · rw [pk_un (by omega), if_neg e]
      exact (r2 x hx).1
  · simp only [Nat.zero_add]
    rw [pk_un (by omega)]
    exact (r3 p hp).1
  · simp only [Nat.zero_add]
    rw [pk_un (by omega)]
    exact (r3 p hp).2 i y hi
  · simp only [Nat.zero_add]
    repeat rw [pk_un (by omega)]
    exact r4 k e hk
theorem Rw_lef {ν : aN} {f : Nat → Int32} {a v : Nat} (h : Rw 0 ν f) (ha : a < 8) : Rw 0 (nLef ν a v) (upd f (11 + a) (nI v)) := by
  obtain ⟨r1, r2, r3, r4⟩ := h
  simp only [Nat.zero_add] at r1 r2 r3 r4
  refine ⟨?_, fun x hx => ?_, fun p hp => ⟨?_, fun i y hi => ?_⟩, fun k e hk => ?_⟩
  · simp only [Nat.zero_add]
    repeat rw [pk_un (by omega)]
    exact r1
  · simp only [Nat.zero_add]
    rw [pk_un (show 3 + x ≠ 11 + a by omega)]
    refine ⟨(r2 x hx).1, ?_⟩
    show _ = nI (if x = a then v else nM ν x)
    by_cases e : x = a
    · subst e
      rw [pk_us, if_pos rfl]
    · rw [pk_un (by omega), if_neg e]
      exact (r2 x hx).2
  · simp only [Nat.zero_add]
    rw [pk_un (by omega)]
    exact (r3 p hp).1
  · simp only [Nat.zero_add]
    rw [pk_un (by omega)]
    exact (r3 p hp).2 i y hi
  · simp only [Nat.zero_add]
    repeat rw [pk_un (by omega)]
    exact r4 k e hk
theorem Rw_los {ν : aN} {f : Nat → Int32} {v : Int32} (h : Rw 0 ν f) : Rw 0 (nAdd ν v) (upd f 2 (f 2 + v)) := by
  obtain ⟨r1, r2, r3, r4⟩ := h
  simp only [Nat.zero_add] at r1 r2 r3 r4
  refine ⟨?_, fun x hx => ?_, fun p hp => ⟨?_, fun i y hi => ?_⟩, fun k e hk => ?_⟩
  · simp only [Nat.zero_add]
    rw [pk_us]
    repeat rw [pk_un (by omega)]
    exact ⟨r1.1, r1.2.1, by rw [r1.2.2.1]; rfl, r1.2.2.2⟩
  · simp only [Nat.zero_add]
    repeat rw [pk_un (by omega)]
    exact r2 x hx
  · simp only [Nat.zero_add]
    rw [pk_un (by omega)]
    exact (r3 p hp).1
  · simp only [Nat.zero_add]
    rw [pk_un (by omega)]
    exact (r3 p hp).2 i y hi
  · simp only [Nat.zero_add]
    repeat rw [pk_un (by omega)]
    exact r4 k e hk
theorem Rw_del {ν : aN} {f : Nat → Int32} {p j n : Nat} (h : Rw 0 ν f) (hl : ∀ p, (nS ν p).length ≤ 5) (hn : (nS ν p).length = n + 1) (hj : j ≤ n) (hp : p < 4) : Rw 0 (nDel ν p j) (shl (upd f (19 + p) (nI n)) (23 + 5 * p + j) (23 + 5 * p + n)) := by
  have hlp := hl p
  obtain ⟨r1, r2, r3, r4⟩ := h
  simp only [Nat.zero_add] at r1 r2 r3 r4
  have out : ∀ k, k ≠ 19 + p → (k < 23 + 5 * p + j ∨ 23 + 5 * p + n ≤ k) → shl (upd f (19 + p) (nI n)) (23 + 5 * p + j) (23 + 5 * p + n) k = f k := fun k h1 h2 => by
    unfold shl
    rw [if_neg (by omega), pk_un h1]
  refine ⟨?_, fun x hx => ?_, fun q hq => ?_, fun k e hk => ?_⟩
  · simp only [Nat.zero_add]
    rw [out 0 (by omega) (by omega), out 1 (by omega) (by omega), out 2 (by omega) (by omega), out 43 (by omega) (by omega)]
    exact r1
  · simp only [Nat.zero_add]
    rw [out _ (by omega) (by omega), out _ (by omega) (by omega)]
    exact r2 x hx
  · simp only [Nat.zero_add]
    obtain ⟨q1, q2⟩ := r3 q hq
    show _ = nI (if q = p then (nS ν p).eraseIdx j else nS ν q).length ∧ ∀ i y, (if q = p then (nS ν p).eraseIdx j else nS ν q)[i]? = some y → _
    by_cases e : q = p
    · subst e
      rw [if_pos rfl]
      refine ⟨?_, fun i y hy => ?_⟩
      · rw [List.length_eraseIdx, if_pos (by omega), hn]
        unfold shl
        rw [if_neg (by omega), pk_us]
        rfl
      · rw [List.getElem?_eraseIdx] at hy
        by_cases hij : i < j
        · rw [if_pos hij] at hy
          rw [out _ (by omega) (by omega)]
          exact q2 i y hy
        · rw [if_neg hij] at hy
          have hil : i + 1 < n + 1 := by
            rw [← hn]
            exact (List.getElem?_eq_some_iff.mp hy).1
          unfold shl
          rw [if_pos (by omega), pk_un (by omega)]
          exact q2 (i + 1) y hy
    · rw [if_neg e]
      refine ⟨?_, fun i y hy => ?_⟩
      · rw [out _ (by omega) (by omega)]
        exact q1
      · have hil := (List.getElem?_eq_some_iff.mp hy).1
        have := hl q
        rw [out _ (by omega) (by omega)]
        exact q2 i y hy
  · simp only [Nat.zero_add]
    rw [out _ (by omega) (by omega), out _ (by omega) (by omega), out _ (by omega) (by omega), out _ (by omega) (by omega)]
    exact r4 k e hk
theorem Rw_ins {ν : aN} {f : Nat → Int32} {a p j : Nat} (h : Rw 0 ν f) (hl : ∀ p, (nS ν p).length ≤ 5) (hn : (nS ν p).length < 5) (hj : j ≤ (nS ν p).length) (hp : p < 4) (ha : a < 8) : Rw 0 (nIns ν a p j) (upd (upd (upd (shq f (23 + 5 * p + j) (23 + 5 * p + (nS ν p).length)) (23 + 5 * p + j) (nI a)) (19 + p) (nI ((nS ν p).length + 1))) (3 + a) 1) := by
  obtain ⟨r1, r2, r3, r4⟩ := h
  simp only [Nat.zero_add] at r1 r2 r3 r4
  have out : ∀ k, k ≠ 19 + p → k ≠ 3 + a → (k < 23 + 5 * p + j ∨ 23 + 5 * p + (nS ν p).length < k) → upd (upd (upd (shq f (23 + 5 * p + j) (23 + 5 * p + (nS ν p).length)) (23 + 5 * p + j) (nI a)) (19 + p) (nI ((nS ν p).length + 1))) (3 + a) 1 k = f k := fun k h1 h2 h3 => by
    rw [pk_un h2, pk_un h1, pk_un (by omega)]
    unfold shq
    rw [if_neg (by omega)]
  refine ⟨?_, fun x hx => ?_, fun q hq => ?_, fun k e hk => ?_⟩
  · simp only [Nat.zero_add]
    rw [out 0 (by omega) (by omega) (by omega), out 1 (by omega) (by omega) (by omega), out 2 (by omega) (by omega) (by omega), out 43 (by omega) (by omega) (by omega)]
    exact r1
  · simp only [Nat.zero_add]
    rw [out (11 + x) (by omega) (by omega) (by omega)]
    refine ⟨?_, (r2 x hx).2⟩
    show _ = nI (if x = a then 1 else nF ν x)
    by_cases e : x = a
    · subst e
      rw [pk_us, if_pos rfl]
      rfl
    · rw [out (3 + x) (by omega) (by omega) (by omega), if_neg e]
      exact (r2 x hx).1
  · simp only [Nat.zero_add]
    obtain ⟨q1, q2⟩ := r3 q hq
    show _ = nI (if q = p then (nS ν p).insertIdx j a else nS ν q).length ∧ ∀ i y, (if q = p then (nS ν p).insertIdx j a else nS ν q)[i]? = some y → _
    by_cases e : q = p
    · subst e
      rw [if_pos rfl]
      refine ⟨?_, fun i y hy => ?_⟩
      · rw [List.length_insertIdx, if_pos hj, pk_un (by omega), pk_us]
      · have hil : i < (nS ν q).length + 1 := by
          have := (List.getElem?_eq_some_iff.mp hy).1
          rw [List.length_insertIdx, if_pos hj] at this
          exact this
        rcases in_at hj hy with ⟨h1, h2⟩ | ⟨h1, h2⟩ | ⟨h1, h2⟩
        · subst h1; subst h2
          rw [pk_un (by omega), pk_un (by omega), pk_us]
        · rw [out _ (by omega) (by omega) (by omega)]
          exact q2 i y h2
        · rw [pk_un (by omega), pk_un (by omega), pk_un (by omega)]
          unfold shq
          rw [if_pos (by omega), show 23 + 5 * q + i - 1 = 23 + 5 * q + (i - 1) by omega]
          exact q2 (i - 1) y h2
    · rw [if_neg e]
      refine ⟨?_, fun i y hy => ?_⟩
      · rw [out _ (by omega) (by omega) (by omega)]
        exact q1
      · have hil := (List.getElem?_eq_some_iff.mp hy).1
        have := hl q
        rw [out _ (by omega) (by omega) (by omega)]
        exact q2 i y hy
  · simp only [Nat.zero_add]
    rw [out _ (by omega) (by omega) (by omega), out _ (by omega) (by omega) (by omega), out _ (by omega) (by omega) (by omega), out _ (by omega) (by omega) (by omega)]
    exact r4 k e hk
/-- what a pinned asking is, in the model -/
theorem ypin {τ : aT} {ν : aN} {f : Nat → Int32} {p j a : Nat} (hT : WfT τ) (hW : WfN τ ν) (hw : Rw 0 ν f) (h : (nS ν p)[j]? = some a) :
    p < 4 ∧ a < 8 ∧ a < tA τ ∧ p < tP τ ∧ j < (nS ν p).length ∧ (nS ν p).length ≤ 5 ∧ nF ν a = 1 ∧ f (3 + a) = nI 1 ∧ f (19 + p) = nI (nS ν p).length ∧ f (23 + 5 * p + j) = nI a ∧ ∀ i, i < j → f (23 + 5 * p + i) ≠ nI a := by
  obtain ⟨w1, w2, w3, w4, w5, w6, w7, w8⟩ := id hW
  have hm : a ∈ nS ν p := List.mem_of_getElem? h
  have hp : p < tP τ := w4 p (List.ne_nil_of_mem hm)
  have hp4 : p < 4 := Nat.lt_of_lt_of_le hp hT.1
  have haA : a < tA τ := (w5 p).2.2 a hm
  have ha8 : a < 8 := Nat.lt_of_lt_of_le haA hT.2.1
  have hjl : j < (nS ν p).length := (List.getElem?_eq_some_iff.mp h).1
  have hfa : nF ν a = 1 := (w3 a).mpr ⟨p, hm⟩
  obtain ⟨q1, q2⟩ := hw.2.2.1 p hp4
  simp only [Nat.zero_add] at q1 q2
  have e0 := (hw.2.1 a ha8).1
  simp only [Nat.zero_add] at e0
  rw [hfa] at e0
  refine ⟨hp4, ha8, haA, hp, hjl, xl5 hT hW p, hfa, e0, q1, q2 j a h, fun i hi e => ?_⟩
  obtain ⟨b, hb⟩ : ∃ b, (nS ν p)[i]? = some b := ⟨_, List.getElem?_eq_getElem (show i < (nS ν p).length by omega)⟩
  have hbA : b < 8 := Nat.lt_of_lt_of_le ((w5 p).2.2 b (List.mem_of_getElem? hb)) hT.2.1
  have e2 := q2 i b hb
  rw [e] at e2
  have : a = b := (nI_eq (by omega) (by omega)).mp e2
  subst this
  have := xnd (w5 p).1 hb h
  omega
set_option maxHeartbeats 1000000 in
theorem c_remove (d : Nat) {τ : aT} {ν : aN} {σ : zSt} {p j a : Nat} (hT : WfT τ) (hW : WfN τ ν) (hw : Rw 0 ν (σ.1 65)) (h : (nS ν p)[j]? = some a) : yC (d + 2) 110 [.ref 64, .int (nI p), .int (nI a)] σ (fun r σ' => r = none ∧ PW (nDel ν p j) σ σ') := by
  obtain ⟨hp4, ha8, haA, hpP, hjl, hl5, hfa, hf1, hc, hit, hno⟩ := ypin hT hW hw h
  obtain ⟨n, hn⟩ : ∃ n, (nS ν p).length = n + 1 := ⟨(nS ν p).length - 1, by omega⟩
  refine (c_removeM d σ a p j n ha8 hp4 (by omega) (by rw [hc, hn]) (by omega) hit hno).mono ?_
  rintro r σ' ⟨rfl, rfl⟩
  refine ⟨rfl, _, rfl, Rw_del hw (xl5 hT hW) hn (by omega) hp4, fun k hk => ?_⟩
  unfold shl
  rw [if_neg (by omega), pk_un (by omega)]
set_option maxHeartbeats 1000000 in
theorem c_insert (d : Nat) {τ : aT} {ν : aN} {σ : zSt} {p j a : Nat} (hT : WfT τ) (hl : ∀ p, (nS ν p).length ≤ 5) (hw : Rw 0 ν (σ.1 65)) (ha : a < 8) (hp : p < 4) (hn : (nS ν p).length < 5) (hj : j ≤ (nS ν p).length) : yC (d + 1) 108 [.ref 64, .int (nI p), .int (nI j), .int (nI a)] σ (fun r σ' => r = none ∧ PW (nIns ν a p j) σ σ') := by
  have hc := (hw.2.2.1 p hp).1
  simp only [Nat.zero_add] at hc
  refine (c_insertM d σ a p j _ ha hp hn hc hj).mono ?_
  rintro r σ' ⟨rfl, rfl⟩
  refine ⟨rfl, _, rfl, Rw_ins hw hl hn hj hp ha, fun k hk => ?_⟩
  rw [pk_un (by omega), pk_un (by omega), pk_un (by omega)]
  unfold shq
  rw [if_neg (by omega)]
theorem PW.rf {ν : aN} {σ : zSt} (h : Rw 0 ν (σ.1 65)) : PW ν σ σ := ⟨σ.1 65, (wAs σ 65).symm, h, fun _ _ => rfl⟩
theorem PW.trans {ν1 ν2 : aN} {a b c : zSt} (h : PW ν1 a b) (k : PW ν2 b c) : PW ν2 a c := by
  obtain ⟨f, rfl, h2, h3⟩ := h
  obtain ⟨g, rfl, k2, k3⟩ := k
  refine ⟨g, wAA _ _ _ _, k2, fun i hi => (k3 i hi).trans ?_⟩
  rw [wA1, if_pos rfl]
  exact h3 i hi
theorem PW.w {ν : aN} {σ σ' : zSt} (h : PW ν σ σ') : Rw 0 ν (σ'.1 65) := by
  obtain ⟨f, rfl, h2, h3⟩ := h
  rw [wA1, if_pos rfl]
  exact h2
theorem PW.o {ν : aN} {σ σ' : zSt} (h : PW ν σ σ') : xO 65 66 σ σ' := by
  obtain ⟨f, rfl, h2, h3⟩ := h
  exact (xO.rf σ).wA (by decide) (by decide)
theorem PW.RT {τ : aT} {ν : aN} {σ σ' : zSt} (h : PW ν σ σ') (k : RTm τ σ) : RTm τ σ' := k.of ⟨by rw [h.o.1 64 (Or.inl (by decide))], by rw [h.o.1 64 (Or.inl (by decide))], by rw [h.o.1 64 (Or.inl (by decide))]⟩ (fun c h1 h2 => h.o.1 c (Or.inr (by omega)))
theorem PW.I {ν ν' : aN} {σ σ' : zSt} {k : Nat} {v : Int32} (h : PW ν σ σ') (hk : k < 100) (e : Rw 0 ν (σ'.1 65) → Rw 0 ν' (upd (σ'.1 65) k v)) : PW ν' σ (zwI σ' 65 k v) := by
  have hw := h.w
  obtain ⟨f, rfl, h2, h3⟩ := h
  refine ⟨upd f k v, wAI _ _ _ _ _, ?_, fun i hi => ?_⟩
  · have := e hw
    rw [wA1, if_pos rfl] at this
    exact this
  · rw [pk_un (by omega)]
    exact h3 i hi
