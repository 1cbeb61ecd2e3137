/-! ===== a text: the model reads an item ===== -/
def RTr (τ : aT) (σ : zSt) : Prop := (σ.1 64 19 = nI (tP τ) ∧ σ.1 64 21 = nI (tA τ) ∧ σ.1 64 23 = nI (tH τ)) ∧
  (∀ p, p < tP τ → σ.1 76 (3 * p) = nI (τ.2 0 p) ∧ σ.1 76 (3 * p + 1) = nI (τ.2 1 p) ∧ σ.1 76 (3 * p + 2) = nI (τ.2 2 p)) ∧
  (∀ a, a < tA τ → ∀ j, j < 5 → σ.1 77 (5 * a + j) = nI (τ.2 (3 + j) a)) ∧
  ∀ k, k < tH τ → σ.1 78 (2 * k) = nI (τ.2 8 k) ∧ σ.1 78 (2 * k + 1) = nI (τ.2 9 k)
def xM (σ σ' : zSt) : Prop := (∀ c, c ≠ 64 → (c < 76 ∨ 79 ≤ c) → σ'.1 c = σ.1 c) ∧ (∀ k, k < 17 → σ'.1 64 k = σ.1 64 k) ∧ σ'.2 = σ.2
/-- one row, place and fault are written -/
def xWr (r : Nat) (σ σ' : zSt) : Prop := (∀ c, c ≠ 64 → c ≠ r → σ'.1 c = σ.1 c) ∧ (∀ k, k ≠ 17 → k ≠ 18 → σ'.1 64 k = σ.1 64 k) ∧ σ'.2 = σ.2
def Ri (x : aX) (P : aP) (σ σ' : zSt) : Prop := xM σ σ' ∧ match P with
  | .inl f => f ≤ x.1 ∧ σ'.1 64 18 = nI f
  | .inr (p, τ) => Sx x (.inr p) σ' ∧ RTr τ σ'
noncomputable def pF (x : aX) (s : aQ) (τ : aT) : aP := match s with
  | .inl f => .inl f
  | .inr p => pSc x p τ
section
variable {σ : zSt} {x : aX} {τ : aT}
theorem xM.rf (σ : zSt) : xM σ σ := ⟨fun _ _ _ => rfl, fun _ _ => rfl, rfl⟩
theorem xM.trans {a b c : zSt} (h : xM a b) (k : xM b c) : xM a c := ⟨fun x h1 h2 => (k.1 x h1 h2).trans (h.1 x h1 h2), fun j h1 => (k.2.1 j h1).trans (h.2.1 j h1), k.2.2.trans h.2.2⟩
theorem xM.w {a b : zSt} {k : Nat} {v : Int32} (h : xM a b) (hk : 17 ≤ k) : xM a (zwI b 64 k v) := ⟨fun c hc h2 => by rw [wI1, if_neg hc]; exact h.1 c hc h2, fun j h1 => by rw [wI1, if_pos rfl, pk_un (by omega)]; exact h.2.1 j h1, h.2.2⟩
theorem xM.wr {a b : zSt} {c k : Nat} {v : Int32} (h : xM a b) (h1 : 76 ≤ c) (h2 : c < 79) : xM a (zwI b c k v) := ⟨fun c' hc h3 => by rw [wI1, if_neg (by omega)]; exact h.1 c' hc h3, fun j hj => by rw [wI1, if_neg (by omega)]; exact h.2.1 j hj, h.2.2⟩
theorem xM.X {σ' : zSt} (h : xM σ σ') (k : Xm x σ) : Xm x σ' := k.of (h.2.1 15 (by decide)) (h.1 75 (by decide) (Or.inl (by decide)))
theorem xWr.rf (r : Nat) (σ : zSt) : xWr r σ σ := ⟨fun _ _ _ => rfl, fun _ _ _ => rfl, rfl⟩
theorem xWr.m {r : Nat} {a b c : zSt} (h : xWr r a b) (k : xM1 b c) : xWr r a c := ⟨fun x h1 h2 => (k.1 x h1).trans (h.1 x h1 h2), fun j h1 h2 => (k.2.1 j h1 h2).trans (h.2.1 j h1 h2), k.2.2.trans h.2.2⟩
theorem xWr.w {r j : Nat} {v : Int32} {a b : zSt} (h : xWr r a b) (hr : r ≠ 64) : xWr r a (zwI b r j v) := ⟨fun c h1 h2 => by rw [wI1, if_neg h2]; exact h.1 c h1 h2, fun k h1 h2 => by rw [wI1, if_neg (fun z => hr z.symm)]; exact h.2.1 k h1 h2, h.2.2⟩
theorem xWr.M {r : Nat} {a b : zSt} (h : xWr r a b) (h1 : 76 ≤ r) (h2 : r < 79) : xM a b := ⟨fun c hc h3 => h.1 c hc (by omega), fun k hk => h.2.1 k (by omega) (by omega), h.2.2⟩
theorem Sx.w {s : aQ} {c j : Nat} {v : Int32} (h : Sx x s σ) (hc : c ≠ 64) : Sx x s (zwI σ c j v) := by
  cases s with
  | inl f => exact ⟨h.1, by rw [wI1, if_neg (fun z => hc z.symm)]; exact h.2⟩
  | inr p => exact ⟨h.1, by rw [wI1, if_neg (fun z => hc z.symm)]; exact h.2.1, by rw [wI1, if_neg (fun z => hc z.symm)]; exact h.2.2⟩
theorem Sx.k {s : aQ} {j : Nat} {v : Int32} (h : Sx x s σ) (h1 : j ≠ 17) (h2 : j ≠ 18) : Sx x s (zwI σ 64 j v) := by
  cases s with
  | inl f => exact ⟨h.1, by rw [wI1, if_pos rfl, pk_un (fun z => h2 z.symm)]; exact h.2⟩
  | inr p => exact ⟨h.1, by rw [wI1, if_pos rfl, pk_un (fun z => h2 z.symm)]; exact h.2.1, by rw [wI1, if_pos rfl, pk_un (fun z => h1 z.symm)]; exact h.2.2⟩
theorem tnV_le (s : aQ) : tnV x s ≤ 100 := by
  cases s with
  | inl f => exact Nat.zero_le _
  | inr p => exact nv_le _
theorem nI_ne1 {v : Nat} (h : v ≤ 100) : nI v ≠ -1 := fun z => by
  have := nI_pos (n := v) (by omega)
  rw [z] at this
  exact this (by decide)
theorem pN_tn {lo ub p : Nat} {k : Nat → Nat → aP} : pN x lo ub p k = (match tnS x lo ub (-1) (.inr p) with
    | .inl f => .inl f
    | .inr p' => k (tnV x (.inr p)) p') := by
  by_cases z : ng x (nq x p) lo ub
  · have e : tnS x lo ub (-1) (.inr p) = .inr (dq x (nq x p)) := if_pos ⟨z, nI_ne1 (nv_le _)⟩
    rw [e, pN_t z]
    rfl
  · have e : tnS x lo ub (-1) (.inr p) = .inl (nq x p) := if_neg (fun y => z y.1)
    rw [e, pN_f z]
theorem pM_tn {ub p a : Nat} {k : Nat → Nat → aP} (ha : a ≤ 100) : pM x ub p a k = (match tnS x 0 ub (nI a) (.inr p) with
    | .inl f => .inl f
    | .inr p' => k (tnV x (.inr p)) p') := by
  have ee : nI (nv x (nq x p)) ≠ nI a ↔ nv x (nq x p) ≠ a := not_congr (nI_eq (by have := nv_le (x := x) (nq x p); omega) (by omega))
  by_cases z : ng x (nq x p) 0 ub ∧ nv x (nq x p) ≠ a
  · have e : tnS x 0 ub (nI a) (.inr p) = .inr (dq x (nq x p)) := if_pos ⟨z.1, ee.mpr z.2⟩
    rw [e, pM_t z]
    rfl
  · have e : tnS x 0 ub (nI a) (.inr p) = .inl (nq x p) := if_neg (fun y => z ⟨y.1, ee.mp y.2⟩)
    rw [e, pM_f z]
theorem pPer_tn {p : Nat} {s0 s1 s2 s3 : aQ} (e0 : s0 = .inr p) (e1 : s1 = tnS x 1 6 (-1) s0) (e2 : s2 = tnS x 1 4 (-1) s1) (e3 : s3 = tnS x 0 10 (-1) s2) : pPer x p τ = pF x s3 (addP τ (tnV x s0) (tnV x s1) (tnV x s2)) := by
  unfold pPer
  rw [pN_tn, ← e0, ← e1]
  cases s1 with
  | inl f => rw [e3, e2]; rfl
  | inr p1 =>
    show pN x 1 4 p1 _ = _
    rw [pN_tn, ← e2]
    cases s2 with
    | inl f => rw [e3]; rfl
    | inr p2 =>
      show pN x 0 10 p2 _ = _
      rw [pN_tn, ← e3]
      cases s3 with
      | inl f => rfl
      | inr p3 => rfl
theorem pAsk_tn {p : Nat} {s0 s1 s2 s3 s4 s5 : aQ} (e0 : s0 = .inr p) (e1 : s1 = tnS x 0 (tP τ) (-1) s0) (e2 : s2 = tnS x 0 10 (-1) s1) (e3 : s3 = tnS x 1 10 (-1) s2) (e4 : s4 = tnS x 1 100 (-1) s3) (e5 : s5 = tnS x (tnV x s1) 10 (-1) s4) : pAsk x p τ = pF x s5 (addA τ (tnV x s0) (tnV x s1) (tnV x s2) (tnV x s3) (tnV x s4)) := by
  unfold pAsk
  rw [pN_tn, ← e0, ← e1]
  cases s1 with
  | inl f => rw [e5, e4, e3, e2]; rfl
  | inr p1 =>
    show pN x 0 10 p1 _ = _
    rw [pN_tn, ← e2]
    cases s2 with
    | inl f => rw [e5, e4, e3]; rfl
    | inr p2 =>
      show pN x 1 10 p2 _ = _
      rw [pN_tn, ← e3]
      cases s3 with
      | inl f => rw [e5, e4]; rfl
      | inr p3 =>
        show pN x 1 100 p3 _ = _
        rw [pN_tn, ← e4]
        cases s4 with
        | inl f => rw [e5]; rfl
        | inr p4 =>
          show pN x (tnV x (.inr p1)) 10 p4 _ = _
          rw [pN_tn, ← e5]
          cases s5 with
          | inl f => rfl
          | inr p5 => rfl
theorem pHan_tn {p : Nat} {s0 s1 s2 : aQ} (e0 : s0 = .inr p) (e1 : s1 = tnS x 0 (tA τ) (-1) s0) (e2 : s2 = tnS x 0 (tA τ) (nI (tnV x s0)) s1) : pHan x p τ = pF x s2 (addH τ (tnV x s0) (tnV x s1)) := by
  unfold pHan
  rw [pN_tn, ← e0, ← e1]
  cases s1 with
  | inl f => rw [e2]; rfl
  | inr p1 =>
    show pM x (tA τ) p1 (tnV x s0) _ = _
    rw [pM_tn (tnV_le _), ← e2]
    cases s2 with
    | inl f => rfl
    | inr p2 => rfl
theorem RTr.aP {a b c : Nat} {σ' : zSt} (h : RTr τ σ) (k : xWr 76 σ σ') (e : σ'.1 76 = upd (upd (upd (σ.1 76) (3 * tP τ) (nI a)) (3 * tP τ + 1) (nI b)) (3 * tP τ + 2) (nI c)) : RTr (addP τ a b c) (zwI σ' 64 19 (nI (tP τ + 1))) := by
  obtain ⟨⟨g1, g2, g3⟩, g4, g5, g6⟩ := h
  refine ⟨⟨?_, ?_, ?_⟩, fun p hp => ?_, fun q hq j hj => ?_, fun j hj => ?_⟩
  · rw [wI1, if_pos rfl, pk_us]; rfl
  · rw [wI1, if_pos rfl, pk_un (by decide), k.2.1 21 (by decide) (by decide)]; exact g2
  · rw [wI1, if_pos rfl, pk_un (by decide), k.2.1 23 (by decide) (by decide)]; exact g3
  · have hp : p < tP τ + 1 := hp
    rw [wI1, if_neg (by decide), e]
    by_cases z : p = tP τ
    · rw [z, pk_un (by omega), pk_un (by omega), pk_us, pk_un (by omega), pk_us, pk_us, addP_s.1, addP_s.2.1, addP_s.2.2]
      exact ⟨rfl, rfl, rfl⟩
    · rw [pk_un (by omega), pk_un (by omega), pk_un (by omega), pk_un (by omega), pk_un (by omega), pk_un (by omega), pk_un (by omega), pk_un (by omega), pk_un (by omega), addP_n z, addP_n z, addP_n z]
      exact g4 p (by omega)
  · rw [wI1, if_neg (by decide), k.1 77 (by decide) (by decide), addP_hi (by omega)]; exact g5 q hq j hj
  · rw [wI1, if_neg (by decide), k.1 78 (by decide) (by decide), addP_hi (by omega), addP_hi (by omega)]; exact g6 j hj
theorem RTr.aA {a b c d e : Nat} {σ' : zSt} (h : RTr τ σ) (k : xWr 77 σ σ') (z : σ'.1 77 = upd (upd (upd (upd (upd (σ.1 77) (5 * tA τ) (nI a)) (5 * tA τ + 1) (nI b)) (5 * tA τ + 2) (nI c)) (5 * tA τ + 3) (nI d)) (5 * tA τ + 4) (nI e)) : RTr (addA τ a b c d e) (zwI σ' 64 21 (nI (tA τ + 1))) := by
  obtain ⟨⟨g1, g2, g3⟩, g4, g5, g6⟩ := h
  refine ⟨⟨?_, ?_, ?_⟩, fun p hp => ?_, fun q hq j hj => ?_, fun j hj => ?_⟩
  · rw [wI1, if_pos rfl, pk_un (by decide), k.2.1 19 (by decide) (by decide)]; exact g1
  · rw [wI1, if_pos rfl, pk_us]; rfl
  · rw [wI1, if_pos rfl, pk_un (by decide), k.2.1 23 (by decide) (by decide)]; exact g3
  · rw [wI1, if_neg (by decide), k.1 76 (by decide) (by decide), addA_lo (by omega), addA_lo (by omega), addA_lo (by omega)]; exact g4 p hp
  · have hq : q < tA τ + 1 := hq
    rw [wI1, if_neg (by decide), z]
    by_cases y : q = tA τ
    · subst y
      match j, hj with
      | 0, _ => rw [pk_un (by omega), pk_un (by omega), pk_un (by omega), pk_un (by omega)]; exact (pk_us (f := σ.1 77) (k := 5 * tA τ)).trans (congrArg nI addA_s.1.symm)
      | 1, _ => rw [pk_un (by omega), pk_un (by omega), pk_un (by omega), pk_us]; exact congrArg nI addA_s.2.1.symm
      | 2, _ => rw [pk_un (by omega), pk_un (by omega), pk_us]; exact congrArg nI addA_s.2.2.1.symm
      | 3, _ => rw [pk_un (by omega), pk_us]; exact congrArg nI addA_s.2.2.2.1.symm
      | 4, _ => rw [pk_us]; exact congrArg nI addA_s.2.2.2.2.symm
      | j + 5, h => omega
    · rw [pk_un (by omega), pk_un (by omega), pk_un (by omega), pk_un (by omega), pk_un (by omega), addA_n y]
      exact g5 q (by omega) j hj
  · rw [wI1, if_neg (by decide), k.1 78 (by decide) (by decide), addA_lo (by omega), addA_lo (by omega)]; exact g6 j hj
theorem RTr.aH {a b : Nat} {σ' : zSt} (h : RTr τ σ) (k : xWr 78 σ σ') (z : σ'.1 78 = upd (upd (σ.1 78) (2 * tH τ) (nI a)) (2 * tH τ + 1) (nI b)) : RTr (addH τ a b) (zwI σ' 64 23 (nI (tH τ + 1))) := by
  obtain ⟨⟨g1, g2, g3⟩, g4, g5, g6⟩ := h
  refine ⟨⟨?_, ?_, ?_⟩, fun p hp => ?_, fun q hq j hj => ?_, fun j hj => ?_⟩
  · rw [wI1, if_pos rfl, pk_un (by decide), k.2.1 19 (by decide) (by decide)]; exact g1
  · rw [wI1, if_pos rfl, pk_un (by decide), k.2.1 21 (by decide) (by decide)]; exact g2
  · rw [wI1, if_pos rfl, pk_us]; rfl
  · rw [wI1, if_neg (by decide), k.1 76 (by decide) (by decide), addH_lo (by omega), addH_lo (by omega), addH_lo (by omega)]; exact g4 p hp
  · rw [wI1, if_neg (by decide), k.1 77 (by decide) (by decide), addH_lo (by omega)]; exact g5 q hq j hj
  · have hj : j < tH τ + 1 := hj
    rw [wI1, if_neg (by decide), z]
    by_cases y : j = tH τ
    · rw [y, pk_un (by omega), pk_us, pk_us, addH_s.1, addH_s.2]
      exact ⟨rfl, rfl⟩
    · rw [pk_un (by omega), pk_un (by omega), pk_un (by omega), pk_un (by omega), addH_n y, addH_n y]
      exact g6 j (by omega)
theorem RTr.k {j : Nat} {v : Int32} (h : RTr τ σ) (hj : j = 17 ∨ j = 18) : RTr τ (zwI σ 64 j v) := by
  obtain ⟨⟨g1, g2, g3⟩, g4, g5, g6⟩ := h
  refine ⟨⟨?_, ?_, ?_⟩, fun p hp => ?_, fun q hq i hi => ?_, fun i hi => ?_⟩
  · rw [wI1, if_pos rfl, pk_un (by omega)]; exact g1
  · rw [wI1, if_pos rfl, pk_un (by omega)]; exact g2
  · rw [wI1, if_pos rfl, pk_un (by omega)]; exact g3
  · rw [wI1, if_neg (by decide)]; exact g4 p hp
  · rw [wI1, if_neg (by decide)]; exact g5 q hq i hi
  · rw [wI1, if_neg (by decide)]; exact g6 i hi
end
