/-! ===== a text and what it tells: pure ===== -/
abbrev aX : Type := Nat × (Nat → Nat)
def rnF (P : Nat → Bool) : Nat → Nat → Nat
  | 0, p => p
  | k + 1, p => if P p then rnF P k (p + 1) else p
/-- from p on, as long as P holds, to n at most -/
def rn (P : Nat → Bool) (n p : Nat) : Nat := rnF P (n - p) p
theorem rnF_s {P : Nat → Bool} (k p : Nat) : rnF P (k + 1) p = if P p then rnF P k (p + 1) else p := rfl
theorem rnF_b {P : Nat → Bool} : ∀ k p, p ≤ rnF P k p ∧ rnF P k p ≤ p + k ∧ (∀ i, p ≤ i → i < rnF P k p → P i = true) ∧ (rnF P k p < p + k → P (rnF P k p) = false)
  | 0, p => ⟨Nat.le_refl _, Nat.le_refl _, fun i h1 h2 => absurd h2 (Nat.not_lt.mpr h1), fun h => absurd h (Nat.lt_irrefl _)⟩
  | k + 1, p => by
    rw [rnF_s]
    by_cases h : P p = true
    · rw [if_pos h]
      obtain ⟨h1, h2, h3, h4⟩ := rnF_b (P := P) k (p + 1)
      refine ⟨by omega, by omega, fun i a b => ?_, fun a => h4 (by omega)⟩
      by_cases e : i = p
      · rw [e]; exact h
      · exact h3 i (by omega) b
    · rw [if_neg h]
      refine ⟨Nat.le_refl _, by omega, fun i a b => absurd b (Nat.not_lt.mpr a), fun _ => ?_⟩
      cases z : P p with
      | true => exact absurd z h
      | false => rfl
theorem rn_e {P : Nat → Bool} {n : Nat} : rn P n n = n := by
  unfold rn
  rw [Nat.sub_self]
  rfl
theorem rn_t {P : Nat → Bool} {n p : Nat} (h : p < n) (hp : P p = true) : rn P n p = rn P n (p + 1) := by
  unfold rn
  rw [show n - p = (n - (p + 1)) + 1 by omega, rnF_s, if_pos hp]
theorem rn_f {P : Nat → Bool} {n p : Nat} (hp : ¬ (p < n ∧ P p = true)) : rn P n p = p := by
  unfold rn
  by_cases h : p < n
  · rw [show n - p = (n - (p + 1)) + 1 by omega, rnF_s, if_neg (fun z => hp ⟨h, z⟩)]
  · rw [show n - p = 0 by omega]; rfl
theorem rn_b {P : Nat → Bool} {n p : Nat} (h : p ≤ n) : p ≤ rn P n p ∧ rn P n p ≤ n := by
  have := rnF_b (P := P) (n - p) p
  unfold rn
  omega
theorem rn_in {P : Nat → Bool} {n p i : Nat} (h1 : p ≤ i) (h2 : i < rn P n p) : P i = true := (rnF_b (P := P) (n - p) p).2.2.1 i h1 h2
theorem rn_lt {P : Nat → Bool} {n p : Nat} (h : p ≤ n) : p < rn P n p ↔ p < n ∧ P p = true := by
  constructor
  · intro z
    exact ⟨Nat.lt_of_lt_of_le z (rn_b h).2, rn_in (Nat.le_refl _) z⟩
  · rintro ⟨z1, z2⟩
    rw [rn_t z1 z2]
    exact (rn_b (show p + 1 ≤ n from z1)).1
def isD (b : Nat) : Bool := decide (48 ≤ b ∧ b ≤ 57)
def isL (b : Nat) : Bool := decide (97 ≤ b ∧ b ≤ 122)
def nq (x : aX) (p : Nat) : Nat := rn (fun k => x.2 k == 32) x.1 p
def dq (x : aX) (p : Nat) : Nat := rn (fun k => isD (x.2 k)) x.1 p
def lq (x : aX) (p : Nat) : Nat := rn (fun k => isL (x.2 k)) x.1 p
/-- k digits from q on; 100 at most -/
def dv (f : Nat → Nat) (q : Nat) : Nat → Nat
  | 0 => 0
  | k + 1 => min (10 * dv f q k + (f (q + k) - 48)) 100
theorem dv_s (f : Nat → Nat) (q k : Nat) : dv f q (k + 1) = min (10 * dv f q k + (f (q + k) - 48)) 100 := rfl
theorem dv_le (f : Nat → Nat) (q : Nat) : ∀ k, dv f q k ≤ 100
  | 0 => Nat.zero_le _
  | k + 1 => by rw [dv_s]; omega
def nv (x : aX) (q : Nat) : Nat := dv x.2 q (dq x q - q)
/-- at q stands a number from lo on, below ub -/
def ng (x : aX) (q lo ub : Nat) : Prop := q < dq x q ∧ (dq x q = q + 1 ∨ x.2 q ≠ 48) ∧ nv x q ≤ 99 ∧ lo ≤ nv x q ∧ nv x q < ub
abbrev aP : Type := Nat ⊕ (Nat × aT)
noncomputable def pN (x : aX) (lo ub p : Nat) (k : Nat → Nat → aP) : aP := @ite _ (ng x (nq x p) lo ub) (Classical.propDecidable _) (k (nv x (nq x p)) (dq x (nq x p))) (.inl (nq x p))
noncomputable def pM (x : aX) (ub p a : Nat) (k : Nat → Nat → aP) : aP := @ite _ (ng x (nq x p) 0 ub ∧ nv x (nq x p) ≠ a) (Classical.propDecidable _) (k (nv x (nq x p)) (dq x (nq x p))) (.inl (nq x p))
noncomputable def pSc (x : aX) (p : Nat) (τ : aT) : aP := if nq x p < x.1 ∧ x.2 (nq x p) = 59 then .inr (nq x p + 1, τ) else .inl (nq x p)
def addP (τ : aT) (a b c : Nat) : aT := ((tP τ + 1, tA τ, tH τ), fun r k => if k = tP τ then (if r = 0 then a else if r = 1 then b else if r = 2 then c else τ.2 r k) else τ.2 r k)
def addA (τ : aT) (a b c d e : Nat) : aT := ((tP τ, tA τ + 1, tH τ), fun r k => if k = tA τ then (if r = 3 then a else if r = 4 then b else if r = 5 then c else if r = 6 then d else if r = 7 then e else τ.2 r k) else τ.2 r k)
def addH (τ : aT) (a b : Nat) : aT := ((tP τ, tA τ, tH τ + 1), fun r k => if k = tH τ then (if r = 8 then a else if r = 9 then b else τ.2 r k) else τ.2 r k)
noncomputable def pPer (x : aX) (p : Nat) (τ : aT) : aP := pN x 1 6 p fun a p => pN x 1 4 p fun b p => pN x 0 10 p fun c p => pSc x p (addP τ a b c)
noncomputable def pAsk (x : aX) (p : Nat) (τ : aT) : aP := pN x 0 (tP τ) p fun a p => pN x 0 10 p fun b p => pN x 1 10 p fun c p => pN x 1 100 p fun d p => pN x b 10 p fun e p => pSc x p (addA τ a b c d e)
noncomputable def pHan (x : aX) (p : Nat) (τ : aT) : aP := pN x 0 (tA τ) p fun a p => pM x (tA τ) p a fun b p => pSc x p (addH τ a b)
/-- the k-th word stands at q -/
def wd (x : aX) (q k : Nat) : Prop := lq x q = q + ylen k ∧ ∀ i, i < ylen k → nI (x.2 (q + i)) = (zby.getD k []).getD i 0
noncomputable def pIt (x : aX) (q : Nat) (τ : aT) : aP := @ite _ (wd x q 0) (Classical.propDecidable _) (if tP τ < 4 then pPer x (lq x q) τ else .inl q) (@ite _ (wd x q 1) (Classical.propDecidable _) (if tA τ < 8 then pAsk x (lq x q) τ else .inl q) (@ite _ (wd x q 2) (Classical.propDecidable _) (if tH τ < 8 then pHan x (lq x q) τ else .inl q) (.inl q)))
noncomputable def pAl (x : aX) : Nat → Nat → aT → Nat ⊕ aT
  | 0, _, _ => .inl 0
  | N + 1, p, τ => if nq x p = x.1 then .inr τ else match pIt x (nq x p) τ with
    | .inl f => .inl f
    | .inr (p', τ') => pAl x N p' τ'
def tI (τ : aT) : Nat := tP τ + tA τ + tH τ
section
variable {x : aX} {τ : aT}
theorem pN_t {lo ub p : Nat} {k : Nat → Nat → aP} (h : ng x (nq x p) lo ub) : pN x lo ub p k = k (nv x (nq x p)) (dq x (nq x p)) := if_pos h
theorem pN_f {lo ub p : Nat} {k : Nat → Nat → aP} (h : ¬ ng x (nq x p) lo ub) : pN x lo ub p k = .inl (nq x p) := if_neg h
theorem pM_t {ub p a : Nat} {k : Nat → Nat → aP} (h : ng x (nq x p) 0 ub ∧ nv x (nq x p) ≠ a) : pM x ub p a k = k (nv x (nq x p)) (dq x (nq x p)) := if_pos h
theorem pM_f {ub p a : Nat} {k : Nat → Nat → aP} (h : ¬ (ng x (nq x p) 0 ub ∧ nv x (nq x p) ≠ a)) : pM x ub p a k = .inl (nq x p) := if_neg h
theorem pSc_t {p : Nat} (h : nq x p < x.1 ∧ x.2 (nq x p) = 59) : pSc x p τ = .inr (nq x p + 1, τ) := if_pos h
theorem pSc_f {p : Nat} (h : ¬ (nq x p < x.1 ∧ x.2 (nq x p) = 59)) : pSc x p τ = .inl (nq x p) := if_neg h
theorem nq_b {p : Nat} (h : p ≤ x.1) : p ≤ nq x p ∧ nq x p ≤ x.1 := rn_b h
theorem dq_b {p : Nat} (h : p ≤ x.1) : p ≤ dq x p ∧ dq x p ≤ x.1 := rn_b h
theorem lq_b {p : Nat} (h : p ≤ x.1) : p ≤ lq x p ∧ lq x p ≤ x.1 := rn_b h
/-- what a piece of the reading may come to -/
def pOK (x : aX) (N : Nat) (P : aP) : Prop := match P with
  | .inl f => f ≤ x.1
  | .inr (p, τ) => p ≤ x.1 ∧ WfT τ ∧ tI τ = N
theorem pN_ok {lo ub p N : Nat} {k : Nat → Nat → aP} (h : p ≤ x.1) (hk : ∀ v p', lo ≤ v → v < ub → p' ≤ x.1 → pOK x N (k v p')) : pOK x N (pN x lo ub p k) := by
  have h1 := nq_b h
  by_cases z : ng x (nq x p) lo ub
  · rw [pN_t z]; exact hk _ _ z.2.2.2.1 z.2.2.2.2 (dq_b h1.2).2
  · rw [pN_f z]; exact h1.2
theorem pM_ok {ub p a N : Nat} {k : Nat → Nat → aP} (h : p ≤ x.1) (hk : ∀ v p', v < ub → v ≠ a → p' ≤ x.1 → pOK x N (k v p')) : pOK x N (pM x ub p a k) := by
  have h1 := nq_b h
  by_cases z : ng x (nq x p) 0 ub ∧ nv x (nq x p) ≠ a
  · rw [pM_t z]; exact hk _ _ z.1.2.2.2.2 z.2 (dq_b h1.2).2
  · rw [pM_f z]; exact h1.2
theorem pSc_ok {p N : Nat} (h : p ≤ x.1) (hT : WfT τ) (hN : tI τ = N) : pOK x N (pSc x p τ) := by
  have h1 := nq_b h
  by_cases z : nq x p < x.1 ∧ x.2 (nq x p) = 59
  · rw [pSc_t z]; exact ⟨z.1, hT, hN⟩
  · rw [pSc_f z]; exact h1.2
theorem Wf_addP {a b c : Nat} (hT : WfT τ) (h4 : tP τ < 4) (ha : 1 ≤ a ∧ a < 6) (hb : 1 ≤ b ∧ b < 4) (hc : c < 10) : WfT (addP τ a b c) := by
  obtain ⟨h1, h2, h3, h5, h6, h7⟩ := hT
  refine ⟨by show tP τ + 1 ≤ 4; omega, h2, h3, fun p hp => ?_, fun q hq => ?_, fun k hk => ?_⟩
  · have hp : p < tP τ + 1 := hp
    show (1 ≤ (if p = tP τ then a else τ.2 0 p) ∧ (if p = tP τ then a else τ.2 0 p) ≤ 5) ∧ (1 ≤ (if p = tP τ then b else τ.2 1 p) ∧ (if p = tP τ then b else τ.2 1 p) ≤ 3) ∧ (if p = tP τ then c else τ.2 2 p) ≤ 9
    by_cases e : p = tP τ
    · rw [if_pos e, if_pos e, if_pos e]; omega
    · rw [if_neg e, if_neg e, if_neg e]; exact h5 p (by omega)
  · have e : ∀ r, 3 ≤ r → (addP τ a b c).2 r q = τ.2 r q := fun r hr => by
      show (if q = tP τ then (if r = 0 then a else if r = 1 then b else if r = 2 then c else τ.2 r q) else τ.2 r q) = _
      rw [if_neg (show ¬ r = 0 by omega), if_neg (show ¬ r = 1 by omega), if_neg (show ¬ r = 2 by omega)]
      split <;> rfl
    rw [e 3 (by omega), e 4 (by omega), e 5 (by omega), e 6 (by omega), e 7 (by omega)]
    have := h6 q hq
    exact ⟨Nat.lt_succ_of_lt this.1, this.2⟩
  · have e : ∀ r, 3 ≤ r → (addP τ a b c).2 r k = τ.2 r k := fun r hr => by
      show (if k = tP τ then (if r = 0 then a else if r = 1 then b else if r = 2 then c else τ.2 r k) else τ.2 r k) = _
      rw [if_neg (show ¬ r = 0 by omega), if_neg (show ¬ r = 1 by omega), if_neg (show ¬ r = 2 by omega)]
      split <;> rfl
    rw [e 8 (by omega), e 9 (by omega)]
    exact h7 k hk
theorem addA_lo {a b c d e r k : Nat} (hr : r < 3 ∨ 8 ≤ r) : (addA τ a b c d e).2 r k = τ.2 r k := by
  show (if k = tA τ then (if r = 3 then a else if r = 4 then b else if r = 5 then c else if r = 6 then d else if r = 7 then e else τ.2 r k) else τ.2 r k) = _
  rw [if_neg (show ¬ r = 3 by omega), if_neg (show ¬ r = 4 by omega), if_neg (show ¬ r = 5 by omega), if_neg (show ¬ r = 6 by omega), if_neg (show ¬ r = 7 by omega)]
  split <;> rfl
theorem Wf_addA {a b c d e : Nat} (hT : WfT τ) (h8 : tA τ < 8) (ha : a < tP τ) (hb : b < 10) (hc : 1 ≤ c ∧ c < 10) (hd : 1 ≤ d ∧ d < 100) (he : b ≤ e ∧ e < 10) : WfT (addA τ a b c d e) := by
  obtain ⟨h1, h2, h3, h5, h6, h7⟩ := hT
  refine ⟨h1, by show tA τ + 1 ≤ 8; omega, h3, fun p hp => ?_, fun q hq => ?_, fun k hk => ?_⟩
  · rw [addA_lo (by omega), addA_lo (by omega), addA_lo (by omega)]
    exact h5 p hp
  · have hq : q < tA τ + 1 := hq
    show (if q = tA τ then a else τ.2 3 q) < tP τ ∧ (if q = tA τ then b else τ.2 4 q) ≤ 9 ∧ (1 ≤ (if q = tA τ then c else τ.2 5 q) ∧ (if q = tA τ then c else τ.2 5 q) ≤ 9) ∧ (1 ≤ (if q = tA τ then d else τ.2 6 q) ∧ (if q = tA τ then d else τ.2 6 q) ≤ 99) ∧ ((if q = tA τ then b else τ.2 4 q) ≤ (if q = tA τ then e else τ.2 7 q) ∧ (if q = tA τ then e else τ.2 7 q) ≤ 9)
    by_cases z : q = tA τ
    · rw [if_pos z, if_pos z, if_pos z, if_pos z, if_pos z]; omega
    · rw [if_neg z, if_neg z, if_neg z, if_neg z, if_neg z]; exact h6 q (by omega)
  · rw [addA_lo (by omega), addA_lo (by omega)]
    have := h7 k hk
    exact ⟨Nat.lt_succ_of_lt this.1, Nat.lt_succ_of_lt this.2.1, this.2.2⟩
theorem addH_lo {a b r k : Nat} (hr : r < 8) : (addH τ a b).2 r k = τ.2 r k := by
  show (if k = tH τ then (if r = 8 then a else if r = 9 then b else τ.2 r k) else τ.2 r k) = _
  rw [if_neg (show ¬ r = 8 by omega), if_neg (show ¬ r = 9 by omega)]
  split <;> rfl
theorem Wf_addH {a b : Nat} (hT : WfT τ) (h8 : tH τ < 8) (ha : a < tA τ) (hb : b < tA τ) (hab : b ≠ a) : WfT (addH τ a b) := by
  obtain ⟨h1, h2, h3, h5, h6, h7⟩ := hT
  refine ⟨h1, h2, by show tH τ + 1 ≤ 8; omega, fun p hp => ?_, fun q hq => ?_, fun k hk => ?_⟩
  · rw [addH_lo (by omega), addH_lo (by omega), addH_lo (by omega)]
    exact h5 p hp
  · rw [addH_lo (by omega), addH_lo (by omega), addH_lo (by omega), addH_lo (by omega), addH_lo (by omega)]
    exact h6 q hq
  · have hk : k < tH τ + 1 := hk
    show (if k = tH τ then a else τ.2 8 k) < tA τ ∧ (if k = tH τ then b else τ.2 9 k) < tA τ ∧ (if k = tH τ then a else τ.2 8 k) ≠ (if k = tH τ then b else τ.2 9 k)
    by_cases z : k = tH τ
    · rw [if_pos z, if_pos z]; exact ⟨ha, hb, fun y => hab y.symm⟩
    · rw [if_neg z, if_neg z]; exact h7 k (by omega)
theorem pIt_ok {q : Nat} (hT : WfT τ) (hq : q ≤ x.1) : pOK x (tI τ + 1) (pIt x q τ) := by
  have hl := (lq_b (x := x) hq).2
  unfold pIt
  split
  · split
    · exact pN_ok hl fun a p1 a1 a2 h1 => pN_ok h1 fun b p2 b1 b2 h2 => pN_ok h2 fun c p3 _ c2 h3 => pSc_ok h3 (Wf_addP hT (by assumption) ⟨a1, a2⟩ ⟨b1, b2⟩ c2) (by show tP τ + 1 + tA τ + tH τ = tP τ + tA τ + tH τ + 1; omega)
    · exact hq
  · split
    · split
      · exact pN_ok hl fun a p1 _ a2 h1 => pN_ok h1 fun b p2 _ b2 h2 => pN_ok h2 fun c p3 c1 c2 h3 => pN_ok h3 fun d p4 d1 d2 h4 => pN_ok h4 fun e p5 e1 e2 h5 => pSc_ok h5 (Wf_addA hT (by assumption) a2 b2 ⟨c1, c2⟩ ⟨d1, d2⟩ ⟨e1, e2⟩) (by show tP τ + (tA τ + 1) + tH τ = tP τ + tA τ + tH τ + 1; omega)
      · exact hq
    · split
      · split
        · exact pN_ok hl fun a p1 _ a2 h1 => pM_ok h1 fun b p2 b1 b2 h2 => pSc_ok h2 (Wf_addH hT (by assumption) a2 b1 b2) (by show tP τ + tA τ + (tH τ + 1) = tP τ + tA τ + tH τ + 1; omega)
        · exact hq
      · exact hq
theorem tI_le (hT : WfT τ) : tI τ ≤ 20 := by
  have := hT.1
  have := hT.2.1
  have := hT.2.2.1
  unfold tI
  omega
end
