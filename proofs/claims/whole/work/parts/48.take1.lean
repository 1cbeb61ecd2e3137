/-! ===== what to take: pure ===== -/
abbrev aK : Type := Nat × Nat × (Nat → Nat)
def wst (a : Nat) (s : aK) : aK := (s.1 - min s.1 (s.2.2 a), if s.2.2 a - min s.1 (s.2.2 a) = 0 then bwo s.2.1 (2 ^ a) else s.2.1, updN s.2.2 a (s.2.2 a - min s.1 (s.2.2 a)))
def wMF (τ : aT) : Nat → Nat → aK → aK
  | 0, _, s => s
  | n + 1, k, s => wMF τ n (k + 1) (if s.2.1.testBit (k % tA τ) = true ∧ τ.2 7 (k % tA τ) = k / tA τ then wst (k % tA τ) s else s)
def wky (τ : aT) (a : Nat) : Nat := τ.2 7 a * tA τ + a
/-- what is held: its rest is 1 to 9, its place in the row is K or behind -/
def wOK (τ : aT) (K : Nat) (s : aK) : Prop := s.2.1 < 2 ^ tA τ ∧ ∀ a, s.2.1.testBit a = true → (1 ≤ s.2.2 a ∧ s.2.2 a ≤ 9) ∧ K ≤ wky τ a
section
variable {τ : aT}
theorem wMF_s (n k : Nat) (s : aK) : wMF τ (n + 1) k s = wMF τ n (k + 1) (if s.2.1.testBit (k % tA τ) = true ∧ τ.2 7 (k % tA τ) = k / tA τ then wst (k % tA τ) s else s) := rfl
theorem wst_u0 {a : Nat} {s : aK} (h : s.1 = 0) (h1 : s.2.2 a ≠ 0) : wst a s = s := by
  obtain ⟨u, m, r⟩ := s
  have h : u = 0 := h
  subst h
  unfold wst
  dsimp only
  simp only [Nat.zero_min, Nat.sub_zero]
  have h1 : r a ≠ 0 := h1
  rw [if_neg h1]
  refine Prod.ext rfl (Prod.ext rfl (funext fun x => ?_))
  show (if x = a then r a else r x) = r x
  by_cases e : x = a
  · rw [if_pos e, e]
  · rw [if_neg e]
theorem wMF_u0 : ∀ (n k : Nat) {s : aK}, s.1 = 0 → (∀ a, s.2.1.testBit a = true → s.2.2 a ≠ 0) → wMF τ n k s = s
  | 0, _, _, _, _ => rfl
  | n + 1, k, s, h, h1 => by
    rw [wMF_s]
    split
    · rename_i hc
      rw [wst_u0 h (h1 _ hc.1)]; exact wMF_u0 n (k + 1) h h1
    · exact wMF_u0 n (k + 1) h h1
theorem wMF_skip : ∀ (j n k : Nat) (s : aK), (∀ k', k ≤ k' → k' < k + j → ¬ (s.2.1.testBit (k' % tA τ) = true ∧ τ.2 7 (k' % tA τ) = k' / tA τ)) → wMF τ (n + j) k s = wMF τ n (k + j) s
  | 0, _, _, _, _ => rfl
  | j + 1, n, k, s, h => by
    rw [← Nat.add_assoc, wMF_s, if_neg (h k (Nat.le_refl _) (by omega)), wMF_skip j n (k + 1) s (fun k' h1 h2 => h k' (by omega) (by omega))]
    congr 1
    omega
theorem wky_mod {q : Nat} (h : q < tA τ) : wky τ q % tA τ = q ∧ wky τ q / tA τ = τ.2 7 q := by
  unfold wky
  have hP : 0 < tA τ := by omega
  constructor
  · rw [Nat.mul_comm, Nat.mul_add_mod, Nat.mod_eq_of_lt h]
  · rw [Nat.mul_comm, Nat.mul_add_div hP, Nat.div_eq_of_lt h, Nat.add_zero]
theorem wky_of {k : Nat} (h : τ.2 7 (k % tA τ) = k / tA τ) : wky τ (k % tA τ) = k := by
  unfold wky
  rw [h, Nat.mul_comm]
  exact Nat.div_add_mod k (tA τ)
theorem wky_lt (hT : WfT τ) {q : Nat} (h : q < tA τ) : wky τ q < 10 * tA τ := by
  have h9 := (hT.2.2.2.2.1 q h).2.2.2.2.2
  unfold wky
  have : τ.2 7 q * tA τ ≤ 9 * tA τ := Nat.mul_le_mul_right _ h9
  omega
theorem wMF_none (hT : WfT τ) (n k : Nat) {s : aK} (h : s.2.1 = 0) : wMF τ n k s = s := by
  have := wMF_skip (τ := τ) n 0 k s (fun k' _ _ hc => by
    rw [h, Nat.zero_testBit] at hc
    exact absurd hc.1 (by decide))
  rw [Nat.zero_add] at this
  rw [this]
  rfl
theorem wMF_next (hT : WfT τ) {K q : Nat} (s : aK) (hK : K ≤ wky τ q) (hq : q < tA τ) (hb : s.2.1.testBit q = true) (hmin : ∀ q', q' < tA τ → s.2.1.testBit q' = true → wky τ q ≤ wky τ q') : wMF τ (10 * tA τ - K) K s = wMF τ (10 * tA τ - (wky τ q + 1)) (wky τ q + 1) (wst q s) := by
  have hlt := wky_lt hT hq
  have hP : 0 < tA τ := by omega
  rw [show 10 * tA τ - K = (10 * tA τ - wky τ q) + (wky τ q - K) by omega, wMF_skip (wky τ q - K) (10 * tA τ - wky τ q) K s, show K + (wky τ q - K) = wky τ q by omega, show 10 * tA τ - wky τ q = (10 * tA τ - (wky τ q + 1)) + 1 by omega, wMF_s, (wky_mod hq).1, (wky_mod hq).2, if_pos ⟨hb, rfl⟩]
  rintro k' h1 h2 ⟨h3, h4⟩
  have e := wky_of h4
  have := hmin (k' % tA τ) (Nat.mod_lt _ hP) h3
  omega
theorem wst_tb {a b : Nat} {s : aK} (h : (wst a s).2.1.testBit b = true) : s.2.1.testBit b = true ∧ (b = a → (wst a s).2.2 b ≠ 0) := by
  unfold wst at h ⊢
  dsimp only at h ⊢
  by_cases z : s.2.2 a - min s.1 (s.2.2 a) = 0
  · rw [if_pos z, bwo_tb, Bool.and_eq_true] at h
    refine ⟨h.1, fun e => ?_⟩
    rw [e, Nat.testBit_two_pow, decide_eq_true rfl] at h
    exact absurd h.2 (by decide)
  · rw [if_neg z] at h
    refine ⟨h, fun e => ?_⟩
    subst e
    show (if b = b then _ else _) ≠ 0
    rw [if_pos rfl]
    exact z
theorem wst_OK {K a : Nat} {s : aK} (h : wOK τ K s) : wOK τ K (wst a s) := by
  refine ⟨?_, fun b hb => ?_⟩
  · unfold wst
    dsimp only
    split
    · exact bwo_lt h.1
    · exact h.1
  · obtain ⟨h1, h2⟩ := wst_tb hb
    obtain ⟨⟨h3, h4⟩, h5⟩ := h.2 b h1
    refine ⟨?_, h5⟩
    by_cases e : b = a
    · have h6 := h2 e
      subst e
      have e7 : (wst b s).2.2 b = s.2.2 b - min s.1 (s.2.2 b) := by
        show (if b = b then _ else _) = _
        rw [if_pos rfl]
      rw [e7] at h6 ⊢
      omega
    · have e7 : (wst a s).2.2 b = s.2.2 b := by
        show (if b = a then _ else _) = _
        rw [if_neg e]
      rw [e7]
      exact ⟨h3, h4⟩
theorem wMF_OK : ∀ (n k : Nat) {K : Nat} {s : aK}, wOK τ K s → wOK τ K (wMF τ n k s)
  | 0, _, _, _, h => h
  | n + 1, k, _, s, h => by
    rw [wMF_s]
    split
    · exact wMF_OK n (k + 1) (wst_OK h)
    · exact wMF_OK n (k + 1) h
/-- worked on the soonest: it is done, or the units are -/
theorem wst_key (hT : WfT τ) {K q : Nat} {s : aK} (h : wOK τ K s) (hb : s.2.1.testBit q = true) (hmin : ∀ q', q' < tA τ → s.2.1.testBit q' = true → wky τ q ≤ wky τ q') : (wst q s).1 = 0 ∨ (wOK τ (wky τ q + 1) (wst q s) ∧ (wst q s).2.1 = bwo s.2.1 (2 ^ q)) := by
  by_cases z : s.2.2 q ≤ s.1
  · right
    have hz : s.2.2 q - min s.1 (s.2.2 q) = 0 := by omega
    have e : (wst q s).2.1 = bwo s.2.1 (2 ^ q) := by
      unfold wst
      dsimp only
      rw [if_pos hz]
    refine ⟨⟨(wst_OK h).1, fun b hb2 => ⟨((wst_OK h).2 b hb2).1, ?_⟩⟩, e⟩
    rw [e, bwo_tb, Bool.and_eq_true, Nat.testBit_two_pow] at hb2
    have hbA : b < tA τ := by
      rcases Nat.lt_or_ge b (tA τ) with y | y
      · exact y
      · have := hb2.1
        rw [tb_ge h.1 y] at this
        exact absurd this (by decide)
    have hqA : q < tA τ := by
      rcases Nat.lt_or_ge q (tA τ) with y | y
      · exact y
      · rw [tb_ge h.1 y] at hb
        exact absurd hb (by decide)
    have h1 := hmin b hbA hb2.1
    have h2 : b ≠ q := fun e => by
      rw [e, decide_eq_true rfl] at hb2
      exact absurd hb2.2 (by decide)
    rcases Nat.eq_or_lt_of_le h1 with y | y
    · have a1 := (wky_mod hbA).1
      have a2 := (wky_mod hqA).1
      rw [y] at a2
      omega
    · exact y
  · left
    show s.1 - min s.1 (s.2.2 q) = 0
    omega
/-! days -/
def wpr (τ : aT) (set d : Nat) : Nat := bmk (fun a => set.testBit a && (τ.2 4 a == d)) (tA τ)
def wr1 (τ : aT) (set d : Nat) (r : Nat → Nat) : Nat → Nat := fun a => if (wpr τ set d).testBit a then τ.2 5 a else r a
def wdy (τ : aT) (set d W : Nat) (h : Nat) (r : Nat → Nat) : aK := wMF τ (10 * tA τ - d * tA τ) (d * tA τ) (W, h ||| wpr τ set d, wr1 τ set d r)
def wdu (τ : aT) (h d : Nat) : Bool := decide (∃ a, a < tA τ ∧ h.testBit a = true ∧ τ.2 7 a = d)
def wck (τ : aT) (set R W : Nat) : Nat → Nat → Nat → (Nat → Nat) → Bool
  | 0, _, _, _ => true
  | n + 1, d, h, r => if R < pc (h ||| wpr τ set d) then false else if wdu τ (wdy τ set d W h r).2.1 d then false else wck τ set R W n (d + 1) (wdy τ set d W h r).2.1 (wdy τ set d W h r).2.2
def wwo (τ : aT) (set : Nat) : Nat := fb_sm (fun a => if set.testBit a then τ.2 6 a else 0) (tA τ)
def wow (τ : aT) (p d : Nat) : Nat := bmk (fun a => (τ.2 3 a == p) && decide (d ≤ τ.2 4 a)) (tA τ)
def wbe (τ : aT) (p D R W : Nat) : Nat → Nat
  | 0 => 0
  | n + 1 => if bwo (n + 1) (wow τ p D) = 0 ∧ wwo τ (wbe τ p D R W n) < wwo τ (n + 1) ∧ wck τ (n + 1) R W (10 - D) D 0 (fun _ => 0) = true then n + 1 else wbe τ p D R W n
theorem wpr_tb (set d a : Nat) : (wpr τ set d).testBit a = true ↔ a < tA τ ∧ set.testBit a = true ∧ τ.2 4 a = d := by
  unfold wpr
  rw [bmk_tb, Bool.and_eq_true, Bool.and_eq_true, decide_eq_true_iff, beq_iff_eq]
/-- the day begins well -/
theorem wOK_day (hT : WfT τ) {set d h : Nat} {W : Nat} {r : Nat → Nat} (hh : wOK τ (d * tA τ) (W, h, r)) : wOK τ (d * tA τ) (W, h ||| wpr τ set d, wr1 τ set d r) := by
  refine ⟨?_, fun a ha => ?_⟩
  · refine tb_lt fun i hi => ?_
    show (h ||| wpr τ set d).testBit i = false
    rw [Nat.testBit_or, tb_ge hh.1 hi, tb_ge (show wpr τ set d < 2 ^ tA τ from bmk_lt _ _) hi]
    rfl
  · have ha : (h ||| wpr τ set d).testBit a = true := ha
    show (1 ≤ wr1 τ set d r a ∧ wr1 τ set d r a ≤ 9) ∧ _
    unfold wr1
    by_cases z : (wpr τ set d).testBit a = true
    · rw [if_pos z]
      obtain ⟨h1, h2, h3⟩ := (wpr_tb _ _ _).mp z
      obtain ⟨t1, t2, t3, t4, t5⟩ := hT.2.2.2.2.1 a h1
      refine ⟨t3, ?_⟩
      unfold wky
      have : d * tA τ ≤ τ.2 7 a * tA τ := Nat.mul_le_mul_right _ (by omega)
      omega
    · rw [if_neg z]
      rw [Nat.testBit_or, Bool.or_eq_true] at ha
      rcases ha with y | y
      · exact hh.2 a y
      · exact absurd y z
/-- if none is due, all are held for the next day -/
theorem wOK_next {d : Nat} {s : aK} (h : wOK τ (d * tA τ) s) (hd : wdu τ s.2.1 d = false) (u : Nat) : wOK τ ((d + 1) * tA τ) (u, s.2.1, s.2.2) := by
  refine ⟨h.1, fun a ha => ?_⟩
  obtain ⟨h1, h2⟩ := h.2 a ha
  refine ⟨h1, ?_⟩
  have haA : a < tA τ := by
    rcases Nat.lt_or_ge a (tA τ) with y | y
    · exact y
    · have ha : s.2.1.testBit a = true := ha
      rw [tb_ge h.1 y] at ha
      exact absurd ha (by decide)
  have hne : τ.2 7 a ≠ d := fun e => of_decide_eq_false hd ⟨a, haA, ha, e⟩
  unfold wky at h2 ⊢
  have hge : d ≤ τ.2 7 a := by
    rcases Nat.lt_or_ge (τ.2 7 a) d with y | y
    · have : (τ.2 7 a + 1) * tA τ ≤ d * tA τ := Nat.mul_le_mul_right _ y
      rw [Nat.succ_mul] at this
      omega
    · exact y
  have : (d + 1) * tA τ ≤ τ.2 7 a * tA τ := Nat.mul_le_mul_right _ (by omega)
  omega
theorem wwo_0 : wwo τ 0 = 0 := by
  unfold wwo
  have : fb_sm (fun a => if (0 : Nat).testBit a then τ.2 6 a else 0) (tA τ) = fb_sm (fun _ => 0) (tA τ) := fb_sm_cong fun k _ => by rw [Nat.zero_testBit]; rfl
  rw [this, fb_sm_const]
  omega
theorem wwo_le (hT : WfT τ) (set : Nat) : wwo τ set ≤ 792 := by
  have h : wwo τ set ≤ tA τ * 99 := fb_sm_bound fun k hk => by
    have := (hT.2.2.2.2.1 k hk).2.2.2.1.2
    split <;> omega
  have := hT.2.1
  omega
end
