/-! ===== rings: pure ===== -/
/-- whether a hangs on nothing but what is gone -/
def hfr (τ : aT) (g a : Nat) : Bool := decide (∀ k, k < tH τ → (τ.2 8 k = a → g.testBit (τ.2 9 k) = true))
theorem hfr_h {τ : aT} {g a : Nat} : hfr τ g a = true ↔ ∀ q, hangs τ a q → g.testBit q = true := by
  unfold hfr
  rw [decide_eq_true_iff]
  constructor
  · rintro h q ⟨k, hk, h8, h9⟩
    rw [← h9]
    exact h k hk h8
  · intro h k hk h8
    exact h _ ⟨k, hk, h8, rfl⟩
def rfp (τ : aT) (g a : Nat) : Bool := !g.testBit a && hfr τ g a
def rF (τ : aT) (g : Nat) : Nat := fa_first (rfp τ g) (tA τ)
def rgn (τ : aT) (off : Nat) : Nat → Nat
  | 0 => off
  | n + 1 => if rF τ (rgn τ off n) < tA τ then rgn τ off n ||| 2 ^ rF τ (rgn τ off n) else rgn τ off n
def rCl (τ : aT) (off : Nat) (C : Nat → Prop) : Prop := (∀ a, off.testBit a = true → C a) ∧ ∀ a, a < tA τ → (∀ b, hangs τ a b → C b) → C a
/-- no ring without off -/
def NR (τ : aT) (off : Nat) : Prop := ∀ C : Nat → Prop, rCl τ off C → ∀ a, a < tA τ → C a
section
variable {τ : aT} {off : Nat}
theorem rgn_s (n : Nat) : rgn τ off (n + 1) = if rF τ (rgn τ off n) < tA τ then rgn τ off n ||| 2 ^ rF τ (rgn τ off n) else rgn τ off n := rfl
theorem rgn_stop {n : Nat} (h : ¬ rF τ (rgn τ off n) < tA τ) : ∀ m, rgn τ off (n + m) = rgn τ off n
  | 0 => rfl
  | m + 1 => by
    have e := rgn_stop h m
    rw [← Nat.add_assoc, rgn_s, e, if_neg h]
theorem rF_le (g : Nat) : rF τ g ≤ tA τ := fa_first_le _ _
theorem rF_yes {g : Nat} (h : rF τ g < tA τ) : g.testBit (rF τ g) = false ∧ hfr τ g (rF τ g) = true := by
  have := fa_first_yes (rfp τ g) (tA τ) h
  unfold rfp at this
  rw [Bool.and_eq_true] at this
  refine ⟨?_, this.2⟩
  have h1 := this.1
  unfold rF rfp
  rw [Bool.not_eq_true'] at h1
  exact h1
theorem rF_no {g a : Nat} (h : a < rF τ g) : g.testBit a = true ∨ hfr τ g a = false := by
  have := fa_first_no (rfp τ g) (tA τ) a h
  unfold rfp at this
  cases hg : g.testBit a with
  | true => exact Or.inl rfl
  | false =>
    rw [hg] at this
    exact Or.inr this
theorem rgn_lt (h : off < 2 ^ tA τ) : ∀ n, rgn τ off n < 2 ^ tA τ
  | 0 => h
  | n + 1 => by
    rw [rgn_s]
    split
    · rename_i hl
      refine tb_lt fun i hi => ?_
      rw [fb_bit_set, tb_ge (rgn_lt h n) hi, decide_eq_false (by omega)]
      rfl
    · exact rgn_lt h n
theorem rgn_sub {C : Nat → Prop} (hC : rCl τ off C) : ∀ n a, (rgn τ off n).testBit a = true → C a
  | 0, a, h => hC.1 a h
  | n + 1, a, h => by
    rw [rgn_s] at h
    split at h
    · rename_i hl
      rw [fb_bit_set, Bool.or_eq_true] at h
      rcases h with h | h
      · exact rgn_sub hC n a h
      · have e := of_decide_eq_true h
        rw [e]
        exact hC.2 _ hl fun b hb => rgn_sub hC n b (hfr_h.mp (rF_yes hl).2 b hb)
    · exact rgn_sub hC n a h
theorem rgn_off : ∀ n a, off.testBit a = true → (rgn τ off n).testBit a = true
  | 0, _, h => h
  | n + 1, a, h => by
    rw [rgn_s]
    split
    · rw [fb_bit_set, rgn_off n a h]; rfl
    · exact rgn_off n a h
theorem rgn_ct : ∀ n, (∀ t, t < n → rF τ (rgn τ off t) < tA τ) → fb_ct (fun i => off.testBit i) (tA τ) + n = fb_ct (fun i => (rgn τ off n).testBit i) (tA τ)
  | 0, _ => rfl
  | n + 1, h => by
    have h1 := rgn_ct n (fun t ht => h t (by omega))
    have hl := h n (by omega)
    have h2 := fb_ct_upd (fun i => (rgn τ off n).testBit i) true hl
    have h3 : fb_ct (fun i => (rgn τ off (n + 1)).testBit i) (tA τ) = fb_ct (fun k => if k = rF τ (rgn τ off n) then true else (rgn τ off n).testBit k) (tA τ) := fb_ct_cong fun i _ => by
      rw [rgn_s, if_pos hl, fb_bit_set]
      by_cases e : i = rF τ (rgn τ off n)
      · rw [if_pos e, decide_eq_true e, Bool.or_true]
      · rw [if_neg e, decide_eq_false e, Bool.or_false]
    rw [h3]
    rw [(rF_yes hl).1] at h2
    simp only [Bool.false_eq_true, if_false, if_true, Nat.add_zero] at h2
    omega
theorem all_tb {n i : Nat} : (2 ^ n - 1).testBit i = decide (i < n) := Nat.testBit_two_pow_sub_one n i
theorem full_eq {m n : Nat} (h : m < 2 ^ n) (h2 : ∀ i, i < n → m.testBit i = true) : m = 2 ^ n - 1 := Nat.eq_of_testBit_eq fun i => by
  rw [all_tb]
  by_cases e : i < n
  · rw [h2 i e, decide_eq_true e]
  · rw [tb_ge h (by omega), decide_eq_false e]
/-- behind as many turns as there are askings, nothing more is free -/
theorem rgn_end (h : off < 2 ^ tA τ) : ¬ rF τ (rgn τ off (tA τ)) < tA τ := by
  intro hl
  have hall : ∀ t, t < tA τ → rF τ (rgn τ off t) < tA τ := by
    intro t ht
    by_cases z : rF τ (rgn τ off t) < tA τ
    · exact z
    · have := rgn_stop z (tA τ - t)
      rw [show t + (tA τ - t) = tA τ by omega] at this
      rw [this] at hl
      exact absurd hl z
  have h1 := rgn_ct (tA τ) hall
  have h2 := fb_ct_le (fun i => (rgn τ off (tA τ)).testBit i) (tA τ)
  have h3 := fb_ct_all.mp (show fb_ct (fun i => (rgn τ off (tA τ)).testBit i) (tA τ) = tA τ by omega) _ hl
  rw [(rF_yes hl).1] at h3
  exact absurd h3 (by decide)
theorem rF_end {g : Nat} (h : ¬ rF τ g < tA τ) {a : Nat} (ha : a < tA τ) : g.testBit a = true ∨ hfr τ g a = false := rF_no (by omega)
theorem NR_iff (h : off < 2 ^ tA τ) : NR τ off ↔ rgn τ off (tA τ) = 2 ^ tA τ - 1 := by
  constructor
  · intro hn
    refine full_eq (rgn_lt h _) fun i hi => ?_
    refine hn (fun a => (rgn τ off (tA τ)).testBit a = true) ⟨fun a ha => rgn_off _ a ha, fun a ha hb => ?_⟩ i hi
    rcases rF_end (rgn_end h) ha with z | z
    · exact z
    · rw [hfr_h.mpr hb] at z
      exact absurd z (by decide)
  · intro he C hC a ha
    refine rgn_sub hC (tA τ) a ?_
    rw [he, all_tb, decide_eq_true ha]
/-! the model's way -/
def rtk (τ : aT) (L : Nat) : Nat → Nat
  | 0 => 0
  | k + 1 => rtk τ L k ||| (if L.testBit (τ.2 8 k) = true ∧ L.testBit (τ.2 9 k) = true then 2 ^ τ.2 8 k else 0)
theorem rtk_tb {L : Nat} : ∀ n a, (rtk τ L n).testBit a = true ↔ L.testBit a = true ∧ ∃ k, k < n ∧ τ.2 8 k = a ∧ L.testBit (τ.2 9 k) = true
  | 0, a => by
    rw [rtk, Nat.zero_testBit]
    constructor
    · intro h; exact absurd h (by decide)
    · rintro ⟨_, k, hk, _⟩; exact absurd hk (Nat.not_lt_zero k)
  | n + 1, a => by
    unfold rtk
    rw [Nat.testBit_or, Bool.or_eq_true, rtk_tb n a]
    constructor
    · rintro (⟨h1, k, hk, h2⟩ | h)
      · exact ⟨h1, k, by omega, h2⟩
      · by_cases z : L.testBit (τ.2 8 n) = true ∧ L.testBit (τ.2 9 n) = true
        · rw [if_pos z, Nat.testBit_two_pow] at h
          have := of_decide_eq_true h
          exact ⟨this ▸ z.1, n, by omega, this, z.2⟩
        · rw [if_neg z, Nat.zero_testBit] at h
          exact absurd h (by decide)
    · rintro ⟨h1, k, hk, h2, h3⟩
      by_cases e : k = n
      · subst e
        rw [if_pos ⟨h2 ▸ h1, h3⟩, Nat.testBit_two_pow, h2]
        exact Or.inr (decide_eq_true rfl)
      · exact Or.inl ⟨h1, k, by omega, h2, h3⟩
theorem sub_le {a b : Nat} (h : ∀ i, a.testBit i = true → b.testBit i = true) : a ≤ b := by
  have : a &&& b = a := Nat.eq_of_testBit_eq fun i => by
    rw [Nat.testBit_and]
    cases ha : a.testBit i with
    | false => rfl
    | true => rw [h i ha]; rfl
  rw [← this]
  exact Nat.and_le_right
/-- what a row of turns leaves: L holds all that some closed set lacks, and is a part of what was there -/
def rLm (τ : aT) (off L : Nat) : Prop := L < 2 ^ tA τ ∧ (∀ a, L.testBit a = true → off.testBit a = false) ∧ ∀ C, rCl τ off C → ∀ a, a < tA τ → ¬ C a → L.testBit a = true
theorem rLm_0 (h : off < 2 ^ tA τ) : rLm τ off (bwo (2 ^ tA τ - 1) off) := by
  refine ⟨bwo_lt (Nat.sub_lt (Nat.two_pow_pos _) (by decide)), fun a ha => ?_, fun C hC a ha hn => ?_⟩
  · rw [bwo_tb, Bool.and_eq_true] at ha
    have := ha.2
    rw [Bool.not_eq_true'] at this
    exact this
  · rw [bwo_tb, all_tb, decide_eq_true ha, Bool.true_and]
    cases z : off.testBit a with
    | false => rfl
    | true => exact absurd (hC.1 a z) hn
theorem rLm_s (hT : WfT τ) {L : Nat} (h : rLm τ off L) : rLm τ off (rtk τ L (tH τ)) := by
  obtain ⟨h1, h2, h3⟩ := h
  refine ⟨tb_lt fun i hi => ?_, fun a ha => h2 a ((rtk_tb _ _).mp ha).1, fun C hC a ha hn => ?_⟩
  · cases z : (rtk τ L (tH τ)).testBit i with
    | false => rfl
    | true =>
      have := ((rtk_tb _ _).mp z).1
      rw [tb_ge h1 hi] at this
      exact absurd this (by decide)
  · refine (rtk_tb _ _).mpr ⟨h3 C hC a ha hn, ?_⟩
    apply Classical.byContradiction
    intro hno
    refine hn (hC.2 a ha fun b ⟨k, hk, h8, h9⟩ => ?_)
    apply Classical.byContradiction
    intro hb
    have hbA : b < tA τ := h9 ▸ (hT.2.2.2.2.2 k hk).2.1
    exact hno ⟨k, hk, h8, by rw [h9]; exact h3 C hC b hbA hb⟩
theorem rLm_end {L : Nat} (h : rLm τ off L) (he : rtk τ L (tH τ) = L) : L = 0 ↔ NR τ off := by
  obtain ⟨h1, h2, h3⟩ := h
  constructor
  · intro h0 C hC a ha
    apply Classical.byContradiction
    intro hn
    have := h3 C hC a ha hn
    rw [h0, Nat.zero_testBit] at this
    exact absurd this (by decide)
  · intro hn
    refine Nat.eq_of_testBit_eq fun a => ?_
    rw [Nat.zero_testBit]
    by_cases ha : a < tA τ
    · refine hn (fun a => L.testBit a = false) ⟨fun a ha => ?_, fun a ha hb => ?_⟩ a ha
      · cases z : L.testBit a with
        | false => exact z
        | true => rw [h2 a z] at ha; exact absurd ha (by decide)
      · cases z : L.testBit a with
        | false => exact z
        | true =>
          rw [← he] at z
          obtain ⟨_, k, hk, h8, h9⟩ := (rtk_tb _ _).mp z
          rw [hb _ ⟨k, hk, h8, rfl⟩] at h9
          exact absurd h9 (by decide)
    · exact tb_ge h1 (by omega)
/-! how many bits -/
def pc (m : Nat) : Nat := fb_ct (fun i => m.testBit i) 8
theorem pc_le (m : Nat) : pc m ≤ 8 := fb_ct_le _ _
end
