/-! ===== sets as bits; loops; who is free to be worked on ===== -/
/-- a loop from s up to n: what holds behind it holds ahead of it -/
theorem yup {P : Nat → Prop} (s n : Nat) (hs : s ≤ n) (h1 : P n) (h2 : ∀ i, s ≤ i → i < n → P (i + 1) → P i) : P s := by
  suffices H : ∀ k i, s ≤ i → i + k = n → P i from H (n - s) s (Nat.le_refl s) (by omega)
  intro k
  induction k with
  | zero => intro i _ hi; rw [show i = n by omega]; exact h1
  | succ k ih => intro i hsi hi; exact h2 i hsi (by omega) (ih (i + 1) (by omega) (by omega))
theorem bs_shr {m a : Nat} (hm : m < 2 ^ 31) (ha : a < 31) : nI m >>> (nI a &&& 31) = nI (m / 2 ^ a) := pk_shrN hm _ a (s_l a (by omega))
theorem bs_bit {m a : Nat} (hm : m < 2 ^ 31) (ha : a < 31) : nI m >>> (nI a &&& 31) &&& 1 = nI (if m.testBit a then 1 else 0) := by
  rw [bs_shr hm ha, show (1 : Int32) = nI (2 ^ 1 - 1) from rfl, fa_mask]
  congr 1
  rw [Nat.testBit_eq_decide_div_mod_eq]
  have : m / 2 ^ a % 2 < 2 := Nat.mod_lt _ (by decide)
  by_cases h : m / 2 ^ a % 2 = 1
  · simp [h]
  · simp [h]; omega
theorem bs_0 {m a : Nat} (hm : m < 2 ^ 31) (ha : a < 31) : (nI m >>> (nI a &&& 31) &&& 1 = 0) ↔ m.testBit a = false := by
  rw [bs_bit hm ha]
  cases m.testBit a <;> decide
theorem bs_1 {m a : Nat} (hm : m < 2 ^ 31) (ha : a < 31) : (nI m >>> (nI a &&& 31) &&& 1 = 1) ↔ m.testBit a = true := by
  rw [bs_bit hm ha]
  cases m.testBit a <;> decide
theorem bs_one {a : Nat} (ha : a < 31) : (1 : Int32) <<< (nI a &&& 31) = nI (2 ^ a) := by
  have := pk_shlN (n := 1) (nI a &&& 31) a (s_l a (by omega)) (by rw [Nat.one_mul]; exact Nat.pow_lt_pow_right (by decide) (by omega))
  rw [Nat.one_mul] at this
  exact this
/-- a without b -/
def bwo (a b : Nat) : Nat := a ^^^ (a &&& b)
theorem bwo_tb (a b i : Nat) : (bwo a b).testBit i = (a.testBit i && !b.testBit i) := by
  unfold bwo
  rw [Nat.testBit_xor, Nat.testBit_and]
  cases a.testBit i <;> cases b.testBit i <;> rfl
theorem bt_nI {n i : Nat} (h : i < 32) : bt (nI n) i = n.testBit i := by
  unfold bt
  show (BitVec.ofNat 32 n).getLsbD i = _
  rw [BitVec.getLsbD_ofNat, decide_eq_true h, Bool.true_and]
theorem bs_not (a b : Nat) : nI a &&& (nI b ^^^ (-1)) = nI (bwo a b) := by
  refine b_ext fun i hi => ?_
  rw [b_and, b_xor, bt_nI hi, bt_nI hi, bt_nI hi, b_m1 i hi, bwo_tb]
  cases a.testBit i <;> cases b.testBit i <;> rfl
theorem tb_lt {m n : Nat} (h : ∀ i, n ≤ i → m.testBit i = false) : m < 2 ^ n := Nat.lt_pow_two_of_testBit m h
theorem tb_ge {m n i : Nat} (h : m < 2 ^ n) (hi : n ≤ i) : m.testBit i = false := Nat.testBit_lt_two_pow (Nat.lt_of_lt_of_le h (Nat.pow_le_pow_right (by decide) hi))
theorem bwo_lt {a b n : Nat} (h : a < 2 ^ n) : bwo a b < 2 ^ n := tb_lt fun i hi => by rw [bwo_tb, tb_ge h hi, Bool.false_and]
theorem bwo_0 {a b : Nat} : bwo a b = 0 ↔ ∀ i, a.testBit i = true → b.testBit i = true := by
  constructor
  · intro h i hi
    have := bwo_tb a b i
    rw [h, Nat.zero_testBit, hi, Bool.true_and] at this
    cases hb : b.testBit i with
    | true => rfl
    | false => rw [hb] at this; exact absurd this (by decide)
  · intro h
    refine Nat.eq_of_testBit_eq fun i => ?_
    rw [bwo_tb, Nat.zero_testBit]
    cases ha : a.testBit i with
    | false => rfl
    | true => rw [h i ha]; rfl
/-- the bits of those below n of which P says yes -/
def bmk (P : Nat → Bool) : Nat → Nat
  | 0 => 0
  | n + 1 => if P n then bmk P n ||| 2 ^ n else bmk P n
theorem bmk_tb (P : Nat → Bool) : ∀ n i, (bmk P n).testBit i = (decide (i < n) && P i)
  | 0, i => by rw [bmk, Nat.zero_testBit]; simp
  | n + 1, i => by
    unfold bmk
    by_cases h : P n = true
    · rw [if_pos h, fb_bit_set, bmk_tb P n i]
      by_cases e : i = n
      · subst e; simp [h]
      · have : decide (i < n + 1) = decide (i < n) := by
          by_cases z : i < n
          · simp [z]; omega
          · simp [z]; omega
        rw [this, decide_eq_false e, Bool.or_false]
    · rw [if_neg h, bmk_tb P n i]
      by_cases e : i = n
      · subst e
        simp [h]
      · have : decide (i < n + 1) = decide (i < n) := by
          by_cases z : i < n
          · simp [z]; omega
          · simp [z]; omega
        rw [this]
theorem bmk_lt (P : Nat → Bool) (n : Nat) : bmk P n < 2 ^ n := tb_lt fun i hi => by rw [bmk_tb, decide_eq_false (by omega), Bool.false_and]
theorem bmk_lt8 (P : Nat → Bool) {n : Nat} (h : n ≤ 8) : bmk P n < 256 := show bmk P n < 2 ^ 8 from Nat.lt_of_lt_of_le (bmk_lt P n) (Nat.pow_le_pow_right (by decide) h)
theorem bmk_t {P : Nat → Bool} {n : Nat} (h : P n = true) : nI (bmk P n) ||| nI (2 ^ n) = nI (bmk P (n + 1)) := by
  rw [fa_or]
  show nI _ = nI (if P n then _ else _)
  rw [if_pos h]
theorem bmk_f {P : Nat → Bool} {n : Nat} (h : ¬ P n = true) : nI (bmk P n) = nI (bmk P (n + 1)) := by
  show nI _ = nI (if P n then _ else _)
  rw [if_neg h]
/-- whether an asking may be worked on: all on which it hangs are kept -/
def fr (τ : aT) (ν : aN) (a : Nat) : Bool := decide (∀ k, k < tH τ → (τ.2 8 k = a → nF ν (τ.2 9 k) = 2))
theorem fr_h {τ : aT} {ν : aN} {a : Nat} : fr τ ν a = true ↔ ∀ q, hangs τ a q → nF ν q = 2 := by
  unfold fr
  rw [decide_eq_true_iff]
  constructor
  · rintro h q ⟨k, hk, h8, h9⟩
    rw [← h9]
    exact h k hk h8
  · intro h k hk h8
    exact h _ ⟨k, hk, h8, rfl⟩
theorem idx_at {l : List Nat} {a : Nat} (h : a ∈ l) : l[l.idxOf a]? = some a := by
  have := List.idxOf_lt_length_of_mem h
  rw [List.getElem?_eq_getElem this, List.getElem_idxOf]
theorem dr_c {l : List Nat} {i : Nat} (h : i < l.length) : l.drop i = l[i] :: l.drop (i + 1) := List.drop_eq_getElem_cons h
/-! locals more than needed do no harm -/
def kf (lv : zLv) (j : Nat) : zLv := lv.filter (fun q => q.1 == j)
def lvle (a b : zLv) : Prop := ∀ j, kf a j = [] ∨ kf a j = kf b j
def nk (k : Nat) : zLv → Bool
  | [] => true
  | q :: l => (!Nat.beq q.1 k) && nk k l
theorem kf_c (q : Nat × Value) (l : zLv) (j : Nat) : kf (q :: l) j = if q.1 = j then q :: kf l j else kf l j := by
  unfold kf
  rw [List.filter_cons]
  by_cases h : q.1 = j
  · rw [if_pos h, if_pos (by rw [h]; exact beq_self_eq_true j)]
  · rw [if_neg h, if_neg (fun z => h (eq_of_beq z))]
theorem kf_n {k : Nat} : ∀ {l : zLv}, nk k l = true → kf l k = []
  | [], _ => rfl
  | q :: l, h => by
    unfold nk at h
    rw [Bool.and_eq_true] at h
    rw [kf_c, if_neg, kf_n h.2]
    intro z
    rw [z, Nat.beq_refl] at h
    exact absurd h.1 (by decide)
theorem lvle_nil (b : zLv) : lvle [] b := fun _ => Or.inl rfl
theorem lvle_rf (b : zLv) : lvle b b := fun _ => Or.inr rfl
theorem lvle_cons {q : Nat × Value} {a b : zLv} (h : nk q.1 b = true) (k : lvle a b) : lvle (q :: a) (q :: b) := by
  intro j
  rw [kf_c, kf_c]
  by_cases e : q.1 = j
  · subst e
    rw [if_pos rfl, if_pos rfl]
    rcases k q.1 with z | z
    · rw [z, kf_n h]; exact Or.inr rfl
    · rw [z]; exact Or.inr rfl
  · rw [if_neg e, if_neg e]
    exact k j
theorem kf_lk : ∀ (l : zLv) (i : Nat), zlk l i = (kf l i).head?.map (fun q => q.2)
  | [], _ => rfl
  | q :: l, i => by
    unfold zlk
    rw [kf_c]
    by_cases h : q.1 = i
    · rw [if_pos h, if_pos h]; rfl
    · rw [if_neg h, if_neg h]; exact kf_lk l i
theorem kf_c1 (i : Nat) : ∀ (l : zLv) (j : Nat), kf (zc1 i l) j = if j = i then [] else if j + 1 = i then (kf l j).filter (fun q => q.2.category != 2) else kf l j
  | [], j => by
    unfold zc1 kf
    simp
  | q :: l, j => by
    unfold zc1
    by_cases h : q.1 = i
    · rw [if_pos h, kf_c1 i l j, kf_c]
      by_cases e : j = i
      · rw [if_pos e, if_pos e]
      · rw [if_neg (show ¬ q.1 = j by omega)]
    · rw [if_neg h]
      by_cases h2 : q.1 + 1 = i ∧ q.2.category = 2
      · rw [if_pos h2, kf_c1 i l j, kf_c]
        by_cases e : j = i
        · rw [if_pos e, if_pos e]
        · rw [if_neg e, if_neg e]
          by_cases e2 : q.1 = j
          · rw [if_pos e2, if_pos (show j + 1 = i by omega), if_pos (show j + 1 = i by omega), List.filter_cons, if_neg (by rw [h2.2]; decide)]
          · rw [if_neg e2]
      · rw [if_neg h2, kf_c, kf_c, kf_c1 i l j]
        by_cases e : j = i
        · rw [if_pos e, if_pos e, if_neg (by omega)]
        · rw [if_neg e, if_neg e]
          by_cases e2 : q.1 = j
          · rw [if_pos e2, if_pos e2]
            by_cases e3 : j + 1 = i
            · rw [if_pos e3, if_pos e3, List.filter_cons, if_pos]
              by_cases e4 : q.2.category = 2
              · exact absurd ⟨by omega, e4⟩ h2
              · exact bne_iff_ne.mpr e4
            · rw [if_neg e3, if_neg e3]
          · rw [if_neg e2, if_neg e2]
theorem kf_s1 (i : Nat) (v : Value) : ∀ (l : zLv) (j : Nat), kf (zs1 i v l) j = if j = i then [(i, v)] else if j + 1 = i then (kf l j).filter (fun q => q.2.category != 2) else kf l j
  | [], j => by
    unfold zs1
    rw [kf_c]
    by_cases e : j = i
    · rw [if_pos e, if_pos e.symm]; rfl
    · rw [if_neg e, if_neg (fun z => e z.symm)]
      show [] = _
      split <;> rfl
  | q :: l, j => by
    unfold zs1
    by_cases h : q.1 = i
    · rw [if_pos h, kf_c, kf_c1, kf_c]
      by_cases e : j = i
      · rw [if_pos e.symm, if_pos e, if_pos e]
      · rw [if_neg (fun z => e z.symm), if_neg e, if_neg e, if_neg (show ¬ q.1 = j by omega)]
    · rw [if_neg h]
      by_cases h2 : q.1 + 1 = i ∧ q.2.category = 2
      · rw [if_pos h2, kf_s1 i v l j, kf_c]
        by_cases e : j = i
        · rw [if_pos e, if_pos e]
        · rw [if_neg e, if_neg e]
          by_cases e2 : q.1 = j
          · rw [if_pos e2, if_pos (show j + 1 = i by omega), if_pos (show j + 1 = i by omega), List.filter_cons, if_neg (by rw [h2.2]; decide)]
          · rw [if_neg e2]
      · rw [if_neg h2, kf_c, kf_c, kf_s1 i v l j]
        by_cases e : j = i
        · rw [if_pos e, if_pos e, if_neg (by omega)]
        · rw [if_neg e, if_neg e]
          by_cases e2 : q.1 = j
          · rw [if_pos e2, if_pos e2]
            by_cases e3 : j + 1 = i
            · rw [if_pos e3, if_pos e3, List.filter_cons, if_pos]
              by_cases e4 : q.2.category = 2
              · exact absurd ⟨by omega, e4⟩ h2
              · exact bne_iff_ne.mpr e4
            · rw [if_neg e3, if_neg e3]
          · rw [if_neg e2, if_neg e2]
theorem kf_c2 (i : Nat) : ∀ (l : zLv) (j : Nat), kf (zc2 i l) j = if j = i ∨ j = i + 1 then [] else if j + 1 = i then (kf l j).filter (fun q => q.2.category != 2) else kf l j
  | [], j => by
    unfold zc2 kf
    simp
  | q :: l, j => by
    unfold zc2
    by_cases h : q.1 = i
    · rw [if_pos h, kf_c2 i l j, kf_c]
      by_cases e : j = i ∨ j = i + 1
      · rw [if_pos e, if_pos e]
      · rw [if_neg (show ¬ q.1 = j by omega)]
    · rw [if_neg h]
      by_cases h1 : q.1 = i + 1
      · rw [if_pos h1, kf_c2 i l j, kf_c]
        by_cases e : j = i ∨ j = i + 1
        · rw [if_pos e, if_pos e]
        · rw [if_neg (show ¬ q.1 = j by omega)]
      · rw [if_neg h1]
        by_cases h2 : q.1 + 1 = i ∧ q.2.category = 2
        · rw [if_pos h2, kf_c2 i l j, kf_c]
          by_cases e : j = i ∨ j = i + 1
          · rw [if_pos e, if_pos e]
          · rw [if_neg e, if_neg e]
            by_cases e2 : q.1 = j
            · rw [if_pos e2, if_pos (show j + 1 = i by omega), if_pos (show j + 1 = i by omega), List.filter_cons, if_neg (by rw [h2.2]; decide)]
            · rw [if_neg e2]
        · rw [if_neg h2, kf_c, kf_c, kf_c2 i l j]
          by_cases e : j = i ∨ j = i + 1
          · rw [if_pos e, if_pos e, if_neg (by omega)]
          · rw [if_neg e, if_neg e]
            by_cases e2 : q.1 = j
            · rw [if_pos e2, if_pos e2]
              by_cases e3 : j + 1 = i
              · rw [if_pos e3, if_pos e3, List.filter_cons, if_pos]
                by_cases e4 : q.2.category = 2
                · exact absurd ⟨by omega, e4⟩ h2
                · exact bne_iff_ne.mpr e4
              · rw [if_neg e3, if_neg e3]
            · rw [if_neg e2, if_neg e2]
theorem kf_s2 (i : Nat) (v : Value) : ∀ (l : zLv) (j : Nat), kf (zs2 i v l) j = if j = i then [(i, v)] else if j = i + 1 then [] else if j + 1 = i then (kf l j).filter (fun q => q.2.category != 2) else kf l j
  | [], j => by
    unfold zs2
    rw [kf_c]
    by_cases e : j = i
    · rw [if_pos e, if_pos e.symm]; rfl
    · rw [if_neg e, if_neg (fun z => e z.symm)]
      show [] = _
      split
      · rfl
      · split <;> rfl
  | q :: l, j => by
    unfold zs2
    by_cases h : q.1 = i
    · rw [if_pos h, kf_c, kf_c2, kf_c]
      by_cases e : j = i
      · rw [if_pos e.symm, if_pos (Or.inl e), if_pos e]
      · rw [if_neg (fun z => e z.symm), if_neg e]
        by_cases e1 : j = i + 1
        · rw [if_pos e1, if_pos (Or.inr e1)]
        · rw [if_neg e1, if_neg (show ¬ (j = i ∨ j = i + 1) by omega), if_neg (show ¬ q.1 = j by omega)]
    · rw [if_neg h]
      by_cases h1 : q.1 = i + 1
      · rw [if_pos h1, kf_s2 i v l j, kf_c]
        by_cases e : j = i
        · rw [if_pos e, if_pos e]
        · rw [if_neg e, if_neg e]
          by_cases e1 : j = i + 1
          · rw [if_pos e1, if_pos e1]
          · rw [if_neg e1, if_neg e1, if_neg (show ¬ q.1 = j by omega)]
      · rw [if_neg h1]
        by_cases h2 : q.1 + 1 = i ∧ q.2.category = 2
        · rw [if_pos h2, kf_s2 i v l j, kf_c]
          by_cases e : j = i
          · rw [if_pos e, if_pos e]
          · rw [if_neg e, if_neg e]
            by_cases e1 : j = i + 1
            · rw [if_pos e1, if_pos e1]
            · rw [if_neg e1, if_neg e1]
              by_cases e2 : q.1 = j
              · rw [if_pos e2, if_pos (show j + 1 = i by omega), if_pos (show j + 1 = i by omega), List.filter_cons, if_neg (by rw [h2.2]; decide)]
              · rw [if_neg e2]
        · rw [if_neg h2, kf_c, kf_c, kf_s2 i v l j]
          by_cases e : j = i
          · rw [if_pos e, if_pos e, if_neg (by omega)]
          · rw [if_neg e, if_neg e]
            by_cases e1 : j = i + 1
            · rw [if_pos e1, if_pos e1, if_neg (by omega)]
            · rw [if_neg e1, if_neg e1]
              by_cases e2 : q.1 = j
              · rw [if_pos e2, if_pos e2]
                by_cases e3 : j + 1 = i
                · rw [if_pos e3, if_pos e3, List.filter_cons, if_pos]
                  by_cases e4 : q.2.category = 2
                  · exact absurd ⟨by omega, e4⟩ h2
                  · exact bne_iff_ne.mpr e4
                · rw [if_neg e3, if_neg e3]
              · rw [if_neg e2, if_neg e2]
theorem lvle_s1 {a b : zLv} (h : lvle a b) (i : Nat) (v : Value) : lvle (zs1 i v a) (zs1 i v b) := by
  intro j
  rw [kf_s1, kf_s1]
  by_cases e : j = i
  · rw [if_pos e, if_pos e]; exact Or.inr rfl
  · rw [if_neg e, if_neg e]
    rcases h j with z | z
    · rw [z]; left; split <;> rfl
    · rw [z]; exact Or.inr rfl
theorem lvle_s2 {a b : zLv} (h : lvle a b) (i : Nat) (v : Value) : lvle (zs2 i v a) (zs2 i v b) := by
  intro j
  rw [kf_s2, kf_s2]
  by_cases e : j = i
  · rw [if_pos e, if_pos e]; exact Or.inr rfl
  · rw [if_neg e, if_neg e]
    by_cases e1 : j = i + 1
    · rw [if_pos e1]; exact Or.inl rfl
    · rw [if_neg e1, if_neg e1]
      rcases h j with z | z
      · rw [z]; left; split <;> rfl
      · rw [z]; exact Or.inr rfl
theorem lvle_lk {a b : zLv} (h : lvle a b) {i : Nat} {v : Value} (k : zlk a i = some v) : zlk b i = some v := by
  rw [kf_lk] at k ⊢
  rcases h i with z | z
  · rw [z] at k; exact absurd k (by simp)
  · rw [← z]; exact k
theorem zldI_m {a b : zLv} (h : lvle a b) {i : Nat} {F G : Int32 → Prop} (k : zldI a i F) (m : ∀ x, F x → G x) : zldI b i G := by
  unfold zldI at k
  split at k
  · rename_i x e; exact zldI_i (lvle_lk h e) (m _ k)
  · exact k.elim
theorem zldJ_m {a b : zLv} (h : lvle a b) {i : Nat} {F G : Int64 → Prop} (k : zldJ a i F) (m : ∀ x, F x → G x) : zldJ b i G := by
  unfold zldJ at k
  split at k
  · rename_i x e; exact zldJ_i (lvle_lk h e) (m _ k)
  · exact k.elim
theorem zldR_m {a b : zLv} (h : lvle a b) {i : Nat} {F G : Nat → Prop} (k : zldR a i F) (m : ∀ x, F x → G x) : zldR b i G := by
  unfold zldR at k
  split at k
  · rename_i x e; exact zldR_i (lvle_lk h e) (m _ k)
  · exact k.elim
theorem zpI_m {st : List Value} {F G : Int32 → List Value → Prop} (k : zpI st F) (m : ∀ x r, F x r → G x r) : zpI st G := by
  unfold zpI at k ⊢
  split at k
  · exact m _ _ k
  · exact k.elim
theorem zpJ_m {st : List Value} {F G : Int64 → List Value → Prop} (k : zpJ st F) (m : ∀ x r, F x r → G x r) : zpJ st G := by
  unfold zpJ at k ⊢
  split at k
  · exact m _ _ k
  · exact k.elim
theorem zpR_m {st : List Value} {F G : Nat → List Value → Prop} (k : zpR st F) (m : ∀ x r, F x r → G x r) : zpR st G := by
  unfold zpR at k ⊢
  split at k
  · exact m _ _ k
  · exact k.elim
theorem zdup_m {st : List Value} {F G : List Value → Prop} (k : zdup st F) (m : ∀ r, F r → G r) : zdup st G := by
  unfold zdup at k ⊢
  split at k
  · exact m _ k
  · exact m _ k
  · exact k.elim
theorem zdup2_m {st : List Value} {F G : List Value → Prop} (k : zdup2 st F) (m : ∀ r, F r → G r) : zdup2 st G := by
  unfold zdup2 at k ⊢
  split at k
  · exact m _ k
  · exact m _ k
  · exact k.elim
theorem zbr_m {c : Jvm.ClassFile.Cond} {x y : Int32} {A B A' B' : Prop} (k : zbr c x y A B) (h1 : A → A') (h2 : B → B') : zbr c x y A' B' := by
  cases c <;> exact ⟨fun z => h1 (k.1 z), fun z => h2 (k.2 z)⟩
theorem zsw_m {x : Int32} {F G : Nat → Prop} {d : Nat} (m : ∀ t, F t → G t) : ∀ {ts : List (Int32 × Nat)}, zsw x F d ts → zsw x G d ts
  | [], h => m _ h
  | q :: l, h => ⟨fun z => m _ (h.1 z), fun z => zsw_m m (h.2 z)⟩
theorem zpop_m {F G : List Value → List Value → Prop} (m : ∀ a r, F a r → G a r) : ∀ {n : Nat} {acc st : List Value}, zpop n acc st F → zpop n acc st G
  | 0, _, _, h => m _ _ h
  | n + 1, acc, v :: st, h => zpop_m (n := n) (acc := v :: acc) (st := st) m h
  | _ + 1, _, [], h => h.elim
set_option maxHeartbeats 4000000 in
theorem zex_le {E : zEr} {SC : zSc} {Q : Option Value → zSt → Prop} {K K' : zKc} {w : zIn} {pc : Nat} {a b : zLv} {st : List Value} {σ : zSt} (hl : lvle a b) (hK : ∀ pc a b st σ, lvle a b → K pc a st σ → K' pc b st σ) (h : zex E SC Q K w pc a st σ) : zex E SC Q K' w pc b st σ := by
  obtain ⟨i, w1, x, y, w4, v, ts⟩ := w
  cases i
  all_goals (unfold zex at h ⊢; dsimp only at h ⊢)
  all_goals (try (split at h <;> try split))
  all_goals (try exact h.elim)
  all_goals (try (cases hb : Nat.beq x 900 <;> simp only [hb, cond_true, cond_false] at h ⊢))
  all_goals (try (cases hb1 : Nat.beq x 901 <;> simp only [hb1, cond_true, cond_false] at h ⊢))
  all_goals (try (cases hb2 : Nat.beq x 902 <;> simp only [hb2, cond_true, cond_false] at h ⊢))
  all_goals (try (cases hb3 : Nat.beq x 903 <;> simp only [hb3, cond_true, cond_false] at h ⊢))
  all_goals (repeat first
    | exact hK _ _ _ _ _ hl h
    | exact hK _ _ _ _ _ (lvle_s1 hl _ _) h
    | exact hK _ _ _ _ _ (lvle_s2 hl _ _) h
    | exact h
    | (refine zldI_m hl h ?_; clear h; intro x h)
    | (refine zldJ_m hl h ?_; clear h; intro x h)
    | (refine zldR_m hl h ?_; clear h; intro x h)
    | (refine zpI_m h ?_; clear h; intro x r h)
    | (refine zpJ_m h ?_; clear h; intro x r h)
    | (refine zpR_m h ?_; clear h; intro x r h)
    | (refine zdup_m h ?_; clear h; intro r h)
    | (refine zdup2_m h ?_; clear h; intro r h)
    | (refine zbr_m h (fun h => ?_) (fun h => ?_))
    | (refine zsw_m ?_ h; clear h; intro t h)
    | (refine zpop_m ?_ h; clear h; intro as r h)
    | (refine ⟨h.1, ?_⟩; replace h := h.2)
    | (obtain ⟨rv, σ', h1, h⟩ := h; refine ⟨rv, σ', h1, ?_⟩))
theorem yG_le {E : zEr} {SC : zSc} {tb : List (Nat × zIn)} {Q : Option Value → zSt → Prop} : ∀ (n : Nat) (pc : Nat) (a b : zLv) (st : List Value) (σ : zSt), lvle a b → yG E SC tb Q n pc a st σ → yG E SC tb Q n pc b st σ
  | 0, _, _, _, _, _, _, h => h.elim
  | n + 1, pc, a, b, st, σ, hl, h => by
    unfold yG at h ⊢
    split at h
    · rename_i w hw
      exact zex_le hl (fun pc a b st σ => yG_le n pc a b st σ) h
    · exact h.elim
theorem yX_le {E : zEr} {SC : zSc} {tb : List (Nat × zIn)} {Q : Option Value → zSt → Prop} {pc : Nat} {a b : zLv} {st : List Value} {σ : zSt} (hl : lvle a b) (h : yX E SC tb Q pc a st σ) : yX E SC tb Q pc b st σ := by
  obtain ⟨n, hn⟩ := h
  exact ⟨n, yG_le n pc a b st σ hl hn⟩
