/-! ===== what a state IS: a town, a now, in numbers; how the class's cells and the model's hold it ===== -/
/-- a town: people, askings, hangs; by row 0 room, 1 work, 2 price, 3 whom, 4 day, 5 units, 6 worth, 7 due, 8 and 9 a hang's two -/
abbrev aT : Type := (Nat × Nat × Nat) × (Nat → Nat → Nat)
abbrev tP (τ : aT) : Nat := τ.1.1
abbrev tA (τ : aT) : Nat := τ.1.2.1
abbrev tH (τ : aT) : Nat := τ.1.2.2
/-- a deed: 0 promise, 1 let off, 2 broken, 3 handed; asking, sleeve, place, left, what was lost ahead of it -/
abbrev aD : Type := Nat × Nat × Nat × Nat × Nat × Int32
/-- a now: day, won, lost; what became of each; left; sleeves; deeds -/
abbrev aN : Type := (Nat × Int32 × Int32) × (Nat → Nat) × (Nat → Nat) × (Nat → List Nat) × List aD
abbrev nD (ν : aN) : Nat := ν.1.1
abbrev nW (ν : aN) : Int32 := ν.1.2.1
abbrev nL (ν : aN) : Int32 := ν.1.2.2
abbrev nF (ν : aN) : Nat → Nat := ν.2.1
abbrev nM (ν : aN) : Nat → Nat := ν.2.2.1
abbrev nS (ν : aN) : Nat → List Nat := ν.2.2.2.1
abbrev nE (ν : aN) : List aD := ν.2.2.2.2
/-- on which others an asking hangs -/
def hangs (τ : aT) (a b : Nat) : Prop := ∃ k, k < tH τ ∧ τ.2 8 k = a ∧ τ.2 9 k = b
def WfT (τ : aT) : Prop := tP τ ≤ 4 ∧ tA τ ≤ 8 ∧ tH τ ≤ 8 ∧ (∀ p, p < tP τ → (1 ≤ τ.2 0 p ∧ τ.2 0 p ≤ 5) ∧ (1 ≤ τ.2 1 p ∧ τ.2 1 p ≤ 3) ∧ τ.2 2 p ≤ 9) ∧
  (∀ a, a < tA τ → τ.2 3 a < tP τ ∧ τ.2 4 a ≤ 9 ∧ (1 ≤ τ.2 5 a ∧ τ.2 5 a ≤ 9) ∧ (1 ≤ τ.2 6 a ∧ τ.2 6 a ≤ 99) ∧ (τ.2 4 a ≤ τ.2 7 a ∧ τ.2 7 a ≤ 9)) ∧
  ∀ k, k < tH τ → τ.2 8 k < tA τ ∧ τ.2 9 k < tA τ ∧ τ.2 8 k ≠ τ.2 9 k
/-- the class's town at cell b -/
def RTc (b : Nat) (τ : aT) (σ : zSt) : Prop := (σ.1 b 0 = nI (tP τ) ∧ σ.1 b 4 = nI (tA τ) ∧ σ.1 b 10 = nI (tH τ)) ∧
  (∀ p, p < tP τ → σ.1 (b + 1) p = nI (τ.2 0 p) ∧ σ.1 (b + 2) p = nI (τ.2 1 p) ∧ σ.1 (b + 3) p = nI (τ.2 2 p)) ∧
  (∀ a, a < tA τ → σ.1 (b + 4) a = nI (τ.2 3 a) ∧ σ.1 (b + 5) a = nI (τ.2 4 a) ∧ σ.1 (b + 6) a = nI (τ.2 5 a) ∧ σ.1 (b + 7) a = nI (τ.2 6 a) ∧ σ.1 (b + 8) a = nI (τ.2 7 a)) ∧
  ∀ a, a < 8 → ∃ m, m < 256 ∧ σ.1 (b + 9) a = nI m ∧ ∀ q, m.testBit q = true ↔ hangs τ a q
/-- the model's town -/
def RTm (τ : aT) (σ : zSt) : Prop := (σ.1 64 2 = nI (tP τ) ∧ σ.1 64 6 = nI (tA τ) ∧ σ.1 64 8 = nI (tH τ)) ∧
  (∀ p, p < tP τ → σ.1 67 p = nI (τ.2 0 p) ∧ σ.1 68 p = nI (τ.2 1 p) ∧ σ.1 69 p = nI (τ.2 2 p)) ∧
  (∀ a, a < tA τ → ∀ j, j < 5 → σ.1 70 (5 * a + j) = nI (τ.2 (3 + j) a)) ∧
  ∀ k, k < tH τ → σ.1 71 (2 * k) = nI (τ.2 8 k) ∧ σ.1 71 (2 * k + 1) = nI (τ.2 9 k)
/-- the class's now at cell b -/
def RNc (b : Nat) (ν : aN) (σ : zSt) : Prop := (σ.1 b 0 = nI (nD ν) ∧ σ.1 b 1 = nW ν ∧ σ.1 b 2 = nL ν ∧ σ.1 b 8 = nI (nE ν).length) ∧
  (∀ a, a < 8 → σ.1 (b + 1) a = nI (nF ν a) ∧ σ.1 (b + 2) a = nI (if nF ν a = 1 then nM ν a else 0) ∧ (nF ν a ≠ 1 → σ.1 (b + 3) a = -1)) ∧
  (∀ p, p < 4 → σ.1 (b + 4) p = nI (nS ν p).length ∧ ∀ i a, (nS ν p)[i]? = some a → σ.1 (b + 5) (5 * p + i) = nI a ∧ σ.1 (b + 3) a = nI p) ∧
  ∀ k e, (nE ν)[k]? = some e → σ.1 (b + 6) (5 * k) = nI e.2.1 ∧ σ.1 (b + 6) (5 * k + 1) = (if e.1 = 0 then -1 else nI e.2.2.1) ∧ σ.1 (b + 6) (5 * k + 2) = (if e.1 = 0 then 0 else nI e.2.2.2.1) ∧ σ.1 (b + 6) (5 * k + 3) = (if e.1 = 0 then 0 else nI e.2.2.2.2.1) ∧ σ.1 (b + 6) (5 * k + 4) = e.2.2.2.2.2
/-- the model's now at place o of w -/
def RNm (o : Nat) (ν : aN) (σ : zSt) : Prop := (σ.1 65 o = nI (nD ν) ∧ σ.1 65 (o + 1) = nW ν ∧ σ.1 65 (o + 2) = nL ν ∧ σ.1 65 (o + 43) = nI (nE ν).length) ∧
  (∀ a, a < 8 → σ.1 65 (o + 3 + a) = nI (nF ν a) ∧ σ.1 65 (o + 11 + a) = nI (nM ν a)) ∧
  (∀ p, p < 4 → σ.1 65 (o + 19 + p) = nI (nS ν p).length ∧ ∀ i a, (nS ν p)[i]? = some a → σ.1 65 (o + 23 + 5 * p + i) = nI a) ∧
  ∀ k e, (nE ν)[k]? = some e → σ.1 65 (o + 44 + 4 * k) = nI e.1 ∧ σ.1 65 (o + 44 + 4 * k + 1) = nI e.2.1 ∧ σ.1 65 (o + 44 + 4 * k + 2) = nI e.2.2.1 ∧ σ.1 65 (o + 44 + 4 * k + 3) = nI e.2.2.2.1
/-- what a now may be, deeds apart -/
def WfN (τ : aT) (ν : aN) : Prop := nD ν ≤ 10 ∧ (∀ a, nF ν a ≤ 3) ∧ (∀ a, nF ν a = 1 ↔ ∃ p, a ∈ nS ν p) ∧ (∀ p, nS ν p ≠ [] → p < tP τ) ∧ (∀ p, (nS ν p).Nodup ∧ ((nS ν p).length ≤ τ.2 0 p ∨ nS ν p = []) ∧ ∀ a, a ∈ nS ν p → a < tA τ) ∧ (∀ p q a, a ∈ nS ν p → a ∈ nS ν q → p = q) ∧ (∀ a, nF ν a = 0 → nM ν a = 0) ∧ (∀ a, nF ν a = 1 → 1 ≤ nM ν a ∧ nM ν a ≤ 9)
/-! what they rest on -/
theorem RTc.of {b : Nat} {τ : aT} {σ σ' : zSt} (h : RTc b τ σ) (e : ∀ c, b ≤ c → c < b + 10 → σ'.1 c = σ.1 c) : RTc b τ σ' := by
  unfold RTc
  rw [e b (by omega) (by omega), e (b + 1) (by omega) (by omega), e (b + 2) (by omega) (by omega), e (b + 3) (by omega) (by omega), e (b + 4) (by omega) (by omega), e (b + 5) (by omega) (by omega), e (b + 6) (by omega) (by omega), e (b + 7) (by omega) (by omega), e (b + 8) (by omega) (by omega), e (b + 9) (by omega) (by omega)]
  exact h
theorem RTm.of {τ : aT} {σ σ' : zSt} (h : RTm τ σ) (e : σ'.1 64 2 = σ.1 64 2 ∧ σ'.1 64 6 = σ.1 64 6 ∧ σ'.1 64 8 = σ.1 64 8) (e2 : ∀ c, 67 ≤ c → c < 72 → σ'.1 c = σ.1 c) : RTm τ σ' := by
  unfold RTm
  rw [e.1, e.2.1, e.2.2, e2 67 (by omega) (by omega), e2 68 (by omega) (by omega), e2 69 (by omega) (by omega), e2 70 (by omega) (by omega), e2 71 (by omega) (by omega)]
  exact h
theorem RNc.of {b : Nat} {ν : aN} {σ σ' : zSt} (h : RNc b ν σ) (e : ∀ c, b ≤ c → c < b + 7 → σ'.1 c = σ.1 c) : RNc b ν σ' := by
  unfold RNc
  rw [e b (by omega) (by omega), e (b + 1) (by omega) (by omega), e (b + 2) (by omega) (by omega), e (b + 3) (by omega) (by omega), e (b + 4) (by omega) (by omega), e (b + 5) (by omega) (by omega), e (b + 6) (by omega) (by omega)]
  exact h
theorem RNm.of {o : Nat} {ν : aN} {σ σ' : zSt} (h : RNm o ν σ) (e : σ'.1 65 = σ.1 65) : RNm o ν σ' := by
  unfold RNm
  rw [e]
  exact h
/-! rows that are moved by one -/
def shl {α : Type} (g : Nat → α) (s e : Nat) : Nat → α := fun k => if s ≤ k ∧ k < e then g (k + 1) else g k
def shr {α : Type} (g : Nat → α) (s e : Nat) : Nat → α := fun k => if s < k ∧ k ≤ e then g (k - 1) else g k
theorem shl_0 {α : Type} (g : Nat → α) {s e : Nat} (h : e ≤ s) : shl g s e = g := funext fun k => if_neg (by omega)
theorem shl_s (g : Nat → Int32) {s e : Nat} (h : s ≤ e) : upd (shl g s e) e (g (e + 1)) = shl g s (e + 1) := by
  funext k
  unfold upd shl
  by_cases h1 : k = e
  · subst h1
    rw [if_pos rfl, if_pos ⟨h, by omega⟩]
  · rw [if_neg h1]
    by_cases h2 : s ≤ k ∧ k < e
    · rw [if_pos h2, if_pos ⟨h2.1, by omega⟩]
    · rw [if_neg h2, if_neg (by omega)]
theorem shl_n (g : Nat → Int32) {s e k : Nat} (h : e ≤ k) : shl g s e k = g k := if_neg (by omega)
theorem shr_0 {α : Type} (g : Nat → α) {s e : Nat} (h : e ≤ s) : shr g s e = g := funext fun k => if_neg (by omega)
/-- from above: what is moved down to m already -/
def shq (g : Nat → Int32) (m e : Nat) : Nat → Int32 := fun k => if m < k ∧ k ≤ e then g (k - 1) else g k
theorem shq_s (g : Nat → Int32) {m e : Nat} (h : m < e) : upd (shq g (m + 1) e) (m + 1) (g m) = shq g m e := by
  funext k
  unfold upd shq
  by_cases h1 : k = m + 1
  · subst h1
    rw [if_pos rfl, if_pos ⟨by omega, by omega⟩]
    rfl
  · rw [if_neg h1]
    by_cases h2 : m + 1 < k ∧ k ≤ e
    · rw [if_pos h2, if_pos ⟨by omega, h2.2⟩]
    · rw [if_neg h2, if_neg (by omega)]
theorem shq_n (g : Nat → Int32) {m e k : Nat} (h : k ≤ m) : shq g m e k = g k := if_neg (by omega)
theorem nI_m1 {n : Nat} : nI (n + 1) + (-1) = nI n := pk_m1 n
