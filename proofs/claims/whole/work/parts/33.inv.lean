/-! ===== the whole state, class and model; what a call owes ===== -/
/-- town, now, images, text (length, bytes), sorts (known, tenths, worth, days), trace -/
abbrev aS : Type := aT × aN × (Nat → Option aN) × (Nat × (Nat → Nat)) × (Nat × (Nat → Nat) × (Nat → Nat) × (Nat → Nat)) × Int64
abbrev sT (S : aS) : aT := S.1
abbrev sN (S : aS) : aN := S.2.1
abbrev sI (S : aS) : Nat → Option aN := S.2.2.1
abbrev sX (S : aS) : Nat × (Nat → Nat) := S.2.2.2.1
abbrev sC (S : aS) : Nat × (Nat → Nat) × (Nat → Nat) × (Nat → Nat) := S.2.2.2.2.1
abbrev sR (S : aS) : Int64 := S.2.2.2.2.2
/-- each deed that is minded is told by a step -/
def Chn (τ : aT) : List aD → aN → Prop
  | [], _ => True
  | e :: l, ν => ∃ ν', WfN τ ν' ∧ Step τ ν' e ν ∧ Chn τ l ν'
def Ch (τ : aT) (ν : aN) : Prop := (nE ν).length ≤ 12 ∧ Chn τ (nE ν).reverse ν
def WfC (c : Nat × (Nat → Nat) × (Nat → Nat) × (Nat → Nat)) : Prop := c.1 < 8 ∧ c.2.1 0 + c.2.1 1 + c.2.1 2 ≤ 10 ∧ ∀ j, c.2.2.1 j ≤ 99 ∧ c.2.2.2 j ≤ 3
def WfS (S : aS) : Prop := WfT (sT S) ∧ WfN (sT S) (sN S) ∧ Ch (sT S) (sN S) ∧ (∀ i μ, sI S i = some μ → WfN (sT S) μ ∧ Ch (sT S) μ) ∧ ((sX S).1 ≤ 300 ∧ ∀ k, (sX S).2 k < 256) ∧ WfC (sC S)
def Ic (b : Nat) (i : Nat) (o : Option aN) (σ : zSt) : Prop := match o with
  | none => σ.1 46 i = 0
  | some μ => σ.1 46 i = 1 ∧ RNc b μ σ
def Im (b : Nat) (i : Nat) (o : Option aN) (σ : zSt) : Prop := match o with
  | none => σ.1 66 i = 0
  | some μ => σ.1 66 i = 1 ∧ Rw b μ (σ.1 65)
def Xc (x : Nat × (Nat → Nat)) (σ : zSt) : Prop := σ.1 1 1 = nI x.1 ∧ ∀ k, k < x.1 → σ.1 2 k = (nI (x.2 k)).toInt8.toInt32
def Xm (x : Nat × (Nat → Nat)) (σ : zSt) : Prop := σ.1 64 15 = nI x.1 ∧ ∀ k, k < x.1 → σ.1 75 k = nI (x.2 k)
def Cc (c : Nat × (Nat → Nat) × (Nat → Nat) × (Nat → Nat)) (σ : zSt) : Prop := ∀ j, j < 3 → σ.1 48 j = nI (c.2.1 j) ∧ σ.1 49 j = nI (c.2.2.1 j) ∧ σ.1 50 j = nI (c.2.2.2 j) ∧ σ.1 51 j = (if c.1.testBit j then 1 else 0)
def Cm (c : Nat × (Nat → Nat) × (Nat → Nat) × (Nat → Nat)) (σ : zSt) : Prop := σ.1 64 13 = nI c.1 ∧ ∀ j, j < 3 → σ.1 72 j = nI (c.2.1 j) ∧ σ.1 73 j = nI (c.2.2.1 j) ∧ σ.1 74 j = nI (c.2.2.2 j)
def Gc (S : aS) (σ : zSt) : Prop := σ.2.2 = (4, 14) ∧ RTc 4 (sT S) σ ∧ RNc 24 (sN S) σ ∧ (Ic 31 0 (sI S 0) σ ∧ Ic 38 1 (sI S 1) σ) ∧ Xc (sX S) σ ∧ Cc (sC S) σ ∧ σ.2.1 0 9 = sR S ∧ ∀ k, σ.2.1 53 k = 0
def Gm (S : aS) (σ : zSt) : Prop := RTm (sT S) σ ∧ Rw 0 (sN S) (σ.1 65) ∧ (Im 100 0 (sI S 0) σ ∧ Im 200 1 (sI S 1) σ) ∧ Xm (sX S) σ ∧ Cm (sC S) σ ∧ σ.2.1 64 16 = sR S
/-- the model's cells stay -/
def xF (σ σ' : zSt) : Prop := (∀ c, 64 ≤ c → σ'.1 c = σ.1 c) ∧ ∀ c, 64 ≤ c → σ'.2.1 c = σ.2.1 c
theorem xO.F {lo hi : Nat} {σ σ' : zSt} (h : xO lo hi σ σ') (hh : hi ≤ 64) : xF σ σ' := ⟨fun c hc => h.1 c (Or.inr (by omega)), fun c hc => h.2.1 c (Or.inr (by omega))⟩
theorem xF.rf (σ : zSt) : xF σ σ := ⟨fun _ _ => rfl, fun _ _ => rfl⟩
/-- told and spare change places -/
def zpi (c : Nat) : Nat := if 4 ≤ c ∧ c < 14 then c + 10 else if 14 ≤ c ∧ c < 24 then c - 10 else c
def zsp (σ : zSt) : zSt := (fun c => σ.1 (zpi c), fun c => σ.2.1 (zpi c), (zpi σ.2.2.1, zpi σ.2.2.2))
theorem Ic.of {b i : Nat} {o : Option aN} {σ σ' : zSt} (h : Ic b i o σ) (e46 : σ'.1 46 = σ.1 46) (e : ∀ c, b ≤ c → c < b + 7 → σ'.1 c = σ.1 c) : Ic b i o σ' := by
  cases o with
  | none => unfold Ic at *; rw [e46]; exact h
  | some μ => unfold Ic at *; rw [e46]; exact ⟨h.1, h.2.of e⟩
theorem Im.of {b i : Nat} {o : Option aN} {σ σ' : zSt} (h : Im b i o σ) (e46 : σ'.1 66 = σ.1 66) (e : σ'.1 65 = σ.1 65) : Im b i o σ' := by
  cases o with
  | none => unfold Im at *; rw [e46]; exact h
  | some μ => unfold Im at *; rw [e46, e]; exact h
theorem Xc.of {x : Nat × (Nat → Nat)} {σ σ' : zSt} (h : Xc x σ) (e1 : σ'.1 1 1 = σ.1 1 1) (e2 : σ'.1 2 = σ.1 2) : Xc x σ' := by
  unfold Xc at *; rw [e1, e2]; exact h
theorem Xm.of {x : Nat × (Nat → Nat)} {σ σ' : zSt} (h : Xm x σ) (e1 : σ'.1 64 15 = σ.1 64 15) (e2 : σ'.1 75 = σ.1 75) : Xm x σ' := by
  unfold Xm at *; rw [e1, e2]; exact h
theorem Cc.of {x} {σ σ' : zSt} (h : Cc x σ) (e : ∀ c, 48 ≤ c → c < 52 → σ'.1 c = σ.1 c) : Cc x σ' := by
  unfold Cc at *; rw [e 48 (by omega) (by omega), e 49 (by omega) (by omega), e 50 (by omega) (by omega), e 51 (by omega) (by omega)]; exact h
theorem Cm.of {x} {σ σ' : zSt} (h : Cm x σ) (e1 : σ'.1 64 13 = σ.1 64 13) (e : ∀ c, 72 ≤ c → c < 75 → σ'.1 c = σ.1 c) : Cm x σ' := by
  unfold Cm at *; rw [e1, e 72 (by omega) (by omega), e 73 (by omega) (by omega), e 74 (by omega) (by omega)]; exact h
/-- the model's call leaves the class, the class's call leaves the model -/
theorem Gc.fr {S : aS} {σ σ' : zSt} (h : Gc S σ) (k : xO 64 82 σ σ') : Gc S σ' := by
  obtain ⟨h1, h2, h3, ⟨h4, h5⟩, h6, h7, h8, h9⟩ := h
  have e : ∀ c, c < 64 → σ'.1 c = σ.1 c := fun c hc => k.1 c (Or.inl hc)
  refine ⟨by rw [k.2.2]; exact h1, h2.of fun c _ _ => e c (by omega), h3.of fun c _ _ => e c (by omega), ⟨h4.of (e 46 (by omega)) fun c _ _ => e c (by omega), h5.of (e 46 (by omega)) fun c _ _ => e c (by omega)⟩, h6.of (by rw [e 1 (by omega)]) (e 2 (by omega)), h7.of fun c _ _ => e c (by omega), ?_, ?_⟩
  · rw [k.2.1 0 (Or.inl (by omega))]; exact h8
  · rw [k.2.1 53 (Or.inl (by omega))]; exact h9
theorem Gm.fr {S : aS} {σ σ' : zSt} (h : Gm S σ) (k : xF σ σ') : Gm S σ' := by
  obtain ⟨h2, h3, ⟨h4, h5⟩, h6, h7, h8⟩ := h
  have e : ∀ c, 64 ≤ c → σ'.1 c = σ.1 c := k.1
  refine ⟨h2.of ⟨by rw [e 64 (by omega)], by rw [e 64 (by omega)], by rw [e 64 (by omega)]⟩ fun c _ _ => e c (by omega), by rw [e 65 (by omega)]; exact h3, ⟨h4.of (e 66 (by omega)) (e 65 (by omega)), h5.of (e 66 (by omega)) (e 65 (by omega))⟩, h6.of (by rw [e 64 (by omega)]) (e 75 (by omega)), h7.of (by rw [e 64 (by omega)]) fun c _ _ => e c (by omega), ?_⟩
  rw [k.2 64 (by omega)]; exact h8
/-- what the class owes, what the model owes, for one call -/
def opC (S S' : aS) (m : Nat) (as : List Value) (v : Value) : Prop := ∀ σ, Gc S σ → yC 8 m (.ref 0 :: as) σ (fun r σ' => r = some v ∧ (Gc S' σ' ∨ Gc S' (zsp σ')) ∧ xF σ σ')
def opM (S S' : aS) (m : Nat) (as : List Value) (v : Value) : Prop := ∀ σ, Gm S σ → yC 8 m (.ref 64 :: as) σ (fun r σ' => r = some v ∧ Gm S' σ' ∧ xO 64 82 σ σ')
def op (S : aS) (mC mM : Nat) (as : List Value) : Prop := ∃ v S', WfS S' ∧ opC S S' mC as v ∧ opM S S' mM as v
theorem op_q {S : aS} {mC mM : Nat} {as : List Value} (v : Value) (hW : WfS S) (hC : ∀ σ, Gc S σ → yC 8 mC (.ref 0 :: as) σ (fun r σ' => r = some v ∧ σ' = σ)) (hM : ∀ σ, Gm S σ → yC 8 mM (.ref 64 :: as) σ (fun r σ' => r = some v ∧ σ' = σ)) : op S mC mM as := by
  refine ⟨v, S, hW, fun σ h => (hC σ h).mono ?_, fun σ h => (hM σ h).mono ?_⟩
  · rintro r _ ⟨rfl, rfl⟩
    exact ⟨rfl, Or.inl h, xF.rf _⟩
  · rintro r _ ⟨rfl, rfl⟩
    exact ⟨rfl, h, xO.rf _⟩
def sN' (S : aS) (ν : aN) : aS := (S.1, ν, S.2.2)
theorem Gc.now {S : aS} {ν : aN} {σ σ' : zSt} (h : Gc S σ) (h1 : RNc 24 ν σ') (k : xO 24 31 σ σ') : Gc (sN' S ν) σ' := by
  obtain ⟨g1, g2, g3, ⟨g4, g5⟩, g6, g7, g8, g9⟩ := h
  have e : ∀ c, c < 24 ∨ 31 ≤ c → σ'.1 c = σ.1 c := k.1
  refine ⟨by rw [k.2.2]; exact g1, g2.of fun c _ _ => e c (by omega), h1, ⟨g4.of (e 46 (by omega)) fun c _ _ => e c (by omega), g5.of (e 46 (by omega)) fun c _ _ => e c (by omega)⟩, g6.of (by rw [e 1 (by omega)]) (e 2 (by omega)), g7.of fun c _ _ => e c (by omega), ?_, ?_⟩
  · rw [k.2.1 0 (Or.inl (by omega))]; exact g8
  · rw [k.2.1 53 (Or.inr (by omega))]; exact g9
theorem Im.hi {τ : aT} {b i : Nat} {o : Option aN} {σ σ' : zSt} (hT : WfT τ) (hW : ∀ μ, o = some μ → WfN τ μ ∧ Ch τ μ) (h : Im b i o σ) (hb : 100 ≤ b) (e46 : σ'.1 66 = σ.1 66) (e : ∀ k, 100 ≤ k → σ'.1 65 k = σ.1 65 k) : Im b i o σ' := by
  cases o with
  | none => unfold Im at *; rw [e46]; exact h
  | some μ =>
    unfold Im at *
    rw [e46]
    exact ⟨h.1, h.2.shift (fun k _ => e (b + k) (by omega)) (xl5 hT (hW μ rfl).1) (hW μ rfl).2.1⟩
theorem Gm.now {S : aS} {ν : aN} {σ σ' : zSt} (hW : WfS S) (h : Gm S σ) (k : PW ν σ σ') : Gm (sN' S ν) σ' ∧ xO 64 82 σ σ' := by
  obtain ⟨g2, g3, ⟨g4, g5⟩, g6, g7, g8⟩ := h
  have ko := k.o
  have e : ∀ c, c < 65 ∨ 66 ≤ c → σ'.1 c = σ.1 c := ko.1
  have e65 : ∀ j, 100 ≤ j → σ'.1 65 j = σ.1 65 j := by
    obtain ⟨f, rfl, -, hf⟩ := k
    intro j hj
    rw [wA1, if_pos rfl]
    exact hf j hj
  refine ⟨⟨k.RT g2, k.w, ⟨g4.hi hW.1 (fun μ => hW.2.2.2.1 0 μ) (by decide) (e 66 (by omega)) e65, g5.hi hW.1 (fun μ => hW.2.2.2.1 1 μ) (by decide) (e 66 (by omega)) e65⟩, g6.of (by rw [e 64 (by omega)]) (e 75 (by omega)), g7.of (by rw [e 64 (by omega)]) fun c _ _ => e c (by omega), ?_⟩, ko.wide (by decide) (by decide)⟩
  rw [ko.2.1 64 (Or.inl (by omega))]; exact g8
theorem op_n {S : aS} {mC mM : Nat} {as : List Value} (v : Value) (ν : aN) (hW : WfS S) (hW1 : WfN (sT S) ν) (hC1 : Ch (sT S) ν) (hC : ∀ σ, Gc S σ → yC 8 mC (.ref 0 :: as) σ (fun r σ' => r = some v ∧ RNc 24 ν σ' ∧ xO 24 31 σ σ')) (hM : ∀ σ, Gm S σ → yC 8 mM (.ref 64 :: as) σ (fun r σ' => r = some v ∧ PW ν σ σ')) : op S mC mM as := by
  refine ⟨v, sN' S ν, ⟨hW.1, hW1, hC1, hW.2.2.2⟩, fun σ h => (hC σ h).mono ?_, fun σ h => (hM σ h).mono ?_⟩
  · rintro r σ' ⟨rfl, h1, h2⟩
    exact ⟨rfl, Or.inl (h.now h1 h2), h2.F (by decide)⟩
  · rintro r σ' ⟨rfl, h1⟩
    exact ⟨rfl, h.now hW h1⟩
/-! chains -/
theorem Chn_pre {τ : aT} : ∀ {l1 l2 : List aD} {ν : aN}, Chn τ (l1 ++ l2) ν → Chn τ l1 ν
  | [], _, _, _ => trivial
  | _ :: _, _, _, ⟨ν', h1, h2, h3⟩ => ⟨ν', h1, h2, Chn_pre h3⟩
theorem Ch_new {τ : aT} {ν μ : aN} {e : aD} (hW : WfN τ ν) (h : Ch τ ν) (hE : nE μ = nE (nRem ν e)) (hS : Step τ ν e μ) : Ch τ μ := by
  have hE : nE μ = (if (nE ν).length = 12 then (nE ν).drop 1 else nE ν) ++ [e] := hE
  obtain ⟨h1, h2⟩ := h
  refine ⟨?_, ?_⟩
  · rw [hE, List.length_append]
    split
    · rw [List.length_drop]; simp; omega
    · simp; omega
  · rw [hE, List.reverse_append]
    refine ⟨ν, hW, hS, ?_⟩
    split
    · cases hl : nE ν with
      | nil => exact trivial
      | cons x l =>
        rw [hl, List.reverse_cons] at h2
        exact Chn_pre h2
    · exact h2
theorem Ch_day {τ : aT} {ν : aN} (h : nE ν = []) : Ch τ ν := by
  unfold Ch
  rw [h]
  exact ⟨Nat.zero_le _, trivial⟩
