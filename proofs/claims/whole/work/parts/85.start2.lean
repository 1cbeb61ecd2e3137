/-! ===== my machine's start ===== -/
def s0 (f1 f2 f3 : Nat → Int32) : zSt := (fun c => if c = 27 then f1 else if c = 34 then f2 else if c = 41 then f3 else fun _ => 0, fun _ _ => 0, (4, 14))
def S0 : aS := (t0, n0, fun _ => none, (0, fun _ => 0), (0, fun _ => 0, fun _ => 0, fun _ => 0), 0)
theorem WfS0 : WfS S0 := ⟨Wf_t0, Wf_n0 t0, Ch_n0 t0, fun _ _ h => (by cases h), ⟨Nat.zero_le _, fun _ => (by decide : 0 < 256)⟩, (by decide : 0 < 8), (by decide : 0 + 0 + 0 ≤ 10), fun _ => ⟨Nat.zero_le _, Nat.zero_le _⟩⟩
theorem Gc0 {f1 f2 f3 : Nat → Int32} (h : ∀ j, j < 8 → f1 j = -1) : Gc S0 (s0 f1 f2 f3) := by
  refine ⟨rfl, ⟨⟨rfl, rfl, rfl⟩, fun p hp => absurd hp (Nat.not_lt_zero _), fun p hp => absurd hp (Nat.not_lt_zero _), fun a ha => ⟨0, by decide, rfl, fun q => ?_⟩⟩, ⟨⟨rfl, rfl, rfl, rfl⟩, fun a ha => ⟨rfl, rfl, fun _ => h a ha⟩, fun p hp => ⟨rfl, fun i a hi => ?_⟩, fun k e hk => ?_⟩, ⟨rfl, rfl⟩, ⟨rfl, fun k hk => absurd hk (Nat.not_lt_zero _)⟩, fun j hj => ⟨rfl, rfl, rfl, ?_⟩, rfl, fun _ => rfl⟩
  · rw [Nat.zero_testBit]
    exact ⟨fun z => absurd z (by decide), fun ⟨k, hk, _⟩ => absurd hk (Nat.not_lt_zero _)⟩
  · exact absurd hi (by show ¬ ([] : List Nat)[i]? = some a; simp)
  · exact absurd hk (by show ¬ ([] : List aD)[k]? = some e; simp)
  · show (0 : Int32) = (if Nat.testBit 0 j then 1 else 0)
    rw [Nat.zero_testBit]
    rfl
theorem Gm0 {f1 f2 f3 : Nat → Int32} : Gm S0 (s0 f1 f2 f3) := by
  refine ⟨⟨⟨rfl, rfl, rfl⟩, fun p hp => absurd hp (Nat.not_lt_zero _), fun p hp => absurd hp (Nat.not_lt_zero _), fun p hp => absurd hp (Nat.not_lt_zero _)⟩, Rw_n0 (fun _ _ => rfl), ⟨rfl, rfl⟩, ⟨rfl, fun k hk => absurd hk (Nat.not_lt_zero _)⟩, ⟨rfl, fun j hj => ⟨rfl, rfl, rfl⟩⟩, rfl⟩
def adL (q0 : Nat) (u : iS) (v : (Nat → Nat) × (Nat → Int32)) : List Nat := [q0, (u.1 1).1 0, (u.1 1).1 1, (u.1 1).1 2, (u.1 2).1 0, (u.1 2).1 1, (u.1 2).1 2, (u.1 2).1 3, (u.1 2).1 4, (u.1 2).1 5, (u.1 2).1 6, (u.1 2).1 7, (u.1 2).1 8, (u.1 2).1 9, (u.1 3).1 0, (u.1 3).1 1, (u.1 3).1 2, (u.1 3).1 3, (u.1 3).1 4, (u.1 3).1 5, (u.1 3).1 6, (u.1 3).1 7, (u.1 3).1 8, (u.1 3).1 9, (u.1 4).1 0, (u.1 4).1 1, (u.1 4).1 2, (u.1 4).1 3, (u.1 4).1 4, (u.1 4).1 5, (u.1 4).1 6, (u.1 5).1 0, (u.1 5).1 1, (u.1 5).1 2, (u.1 5).1 3, (u.1 5).1 4, (u.1 5).1 5, (u.1 5).1 6, (u.1 6).1 0, (u.1 6).1 1, (u.1 6).1 2, (u.1 6).1 3, (u.1 6).1 4, (u.1 6).1 5, (u.1 6).1 6, u.2.1, u.2.2, (u.1 7).1 0, (u.1 7).1 1, (u.1 7).1 2, (u.1 7).1 3, (u.1 7).1 4, (u.1 7).1 5, (u.1 7).1 5 + 1 + 0, (u.1 7).1 5 + 1 + 1, (u.1 7).1 5 + 1 + 2, (u.1 7).1 5 + 1 + 3, (u.1 7).1 5 + 1 + 4, (u.1 7).1 5 + 1 + 5, (u.1 7).1 5 + 1 + 6, (u.1 8).1 0, (u.1 8).1 1, (u.1 9).1 0, (u.1 9).1 1, v.1 0, v.1 1, v.1 2, v.1 3, v.1 4, v.1 5, v.1 6, v.1 7, v.1 8, v.1 9, v.1 10, v.1 11, v.1 12, v.1 13, v.1 14, v.1 15, v.1 16, v.1 17]
def ad0 (q0 : Nat) (u : iS) (v : (Nat → Nat) × (Nat → Int32)) (b : Nat) (adK : Nat → Nat) : Nat → Nat := fun c => if c < 82 then (adL q0 u v).getD c 0 else if c = 1000 then b else adK (c - 2000)
def posL : List Nat := [0, 61, 62, 63, 51, 52, 53, 54, 55, 56, 57, 58, 59, 60, 41, 42, 43, 44, 45, 46, 47, 48, 49, 50, 34, 35, 36, 37, 38, 39, 40, 27, 28, 29, 30, 31, 32, 33, 20, 21, 22, 23, 24, 25, 26, 1, 19, 6, 7, 8, 9, 10, 11, 12, 13, 14, 15, 16, 17, 18, 4, 5, 2, 3, 64, 65, 66, 67, 68, 69, 70, 71, 72, 73, 74, 75, 76, 77, 78, 79, 80, 81]
theorem posL_inj : ∀ i, i < 82 → ∀ j, j < 82 → posL.getD i 0 = posL.getD j 0 → i = j := by decide +kernel
section ST
variable {D : va_G} {cy : Nat → ClassId} {q0 : Nat} {u : iS} {v : (Nat → Nat) × (Nat → Int32)} {b : Nat} {adK : Nat → Nat} {H : Heap} {A : Nat → Prop}
set_option maxHeartbeats 8000000 in
set_option maxRecDepth 100000 in
theorem st_pos : ∀ c, c < 82 → ∃ e, (iW_6 cy q0 u ++ iW_7 cy v)[posL.getD c 0]? = some (ad0 q0 u v b adK c, e) := by
  intro c hc
  match c, hc with
  | 0, _ => exact ⟨_, rfl⟩
  | 1, _ => exact ⟨_, rfl⟩
  | 2, _ => exact ⟨_, rfl⟩
  | 3, _ => exact ⟨_, rfl⟩
  | 4, _ => exact ⟨_, rfl⟩
  | 5, _ => exact ⟨_, rfl⟩
  | 6, _ => exact ⟨_, rfl⟩
  | 7, _ => exact ⟨_, rfl⟩
  | 8, _ => exact ⟨_, rfl⟩
  | 9, _ => exact ⟨_, rfl⟩
  | 10, _ => exact ⟨_, rfl⟩
  | 11, _ => exact ⟨_, rfl⟩
  | 12, _ => exact ⟨_, rfl⟩
  | 13, _ => exact ⟨_, rfl⟩
  | 14, _ => exact ⟨_, rfl⟩
  | 15, _ => exact ⟨_, rfl⟩
  | 16, _ => exact ⟨_, rfl⟩
  | 17, _ => exact ⟨_, rfl⟩
  | 18, _ => exact ⟨_, rfl⟩
  | 19, _ => exact ⟨_, rfl⟩
  | 20, _ => exact ⟨_, rfl⟩
  | 21, _ => exact ⟨_, rfl⟩
  | 22, _ => exact ⟨_, rfl⟩
  | 23, _ => exact ⟨_, rfl⟩
  | 24, _ => exact ⟨_, rfl⟩
  | 25, _ => exact ⟨_, rfl⟩
  | 26, _ => exact ⟨_, rfl⟩
  | 27, _ => exact ⟨_, rfl⟩
  | 28, _ => exact ⟨_, rfl⟩
  | 29, _ => exact ⟨_, rfl⟩
  | 30, _ => exact ⟨_, rfl⟩
  | 31, _ => exact ⟨_, rfl⟩
  | 32, _ => exact ⟨_, rfl⟩
  | 33, _ => exact ⟨_, rfl⟩
  | 34, _ => exact ⟨_, rfl⟩
  | 35, _ => exact ⟨_, rfl⟩
  | 36, _ => exact ⟨_, rfl⟩
  | 37, _ => exact ⟨_, rfl⟩
  | 38, _ => exact ⟨_, rfl⟩
  | 39, _ => exact ⟨_, rfl⟩
  | 40, _ => exact ⟨_, rfl⟩
  | 41, _ => exact ⟨_, rfl⟩
  | 42, _ => exact ⟨_, rfl⟩
  | 43, _ => exact ⟨_, rfl⟩
  | 44, _ => exact ⟨_, rfl⟩
  | 45, _ => exact ⟨_, rfl⟩
  | 46, _ => exact ⟨_, rfl⟩
  | 47, _ => exact ⟨_, rfl⟩
  | 48, _ => exact ⟨_, rfl⟩
  | 49, _ => exact ⟨_, rfl⟩
  | 50, _ => exact ⟨_, rfl⟩
  | 51, _ => exact ⟨_, rfl⟩
  | 52, _ => exact ⟨_, rfl⟩
  | 53, _ => exact ⟨_, rfl⟩
  | 54, _ => exact ⟨_, rfl⟩
  | 55, _ => exact ⟨_, rfl⟩
  | 56, _ => exact ⟨_, rfl⟩
  | 57, _ => exact ⟨_, rfl⟩
  | 58, _ => exact ⟨_, rfl⟩
  | 59, _ => exact ⟨_, rfl⟩
  | 60, _ => exact ⟨_, rfl⟩
  | 61, _ => exact ⟨_, rfl⟩
  | 62, _ => exact ⟨_, rfl⟩
  | 63, _ => exact ⟨_, rfl⟩
  | 64, _ => exact ⟨_, rfl⟩
  | 65, _ => exact ⟨_, rfl⟩
  | 66, _ => exact ⟨_, rfl⟩
  | 67, _ => exact ⟨_, rfl⟩
  | 68, _ => exact ⟨_, rfl⟩
  | 69, _ => exact ⟨_, rfl⟩
  | 70, _ => exact ⟨_, rfl⟩
  | 71, _ => exact ⟨_, rfl⟩
  | 72, _ => exact ⟨_, rfl⟩
  | 73, _ => exact ⟨_, rfl⟩
  | 74, _ => exact ⟨_, rfl⟩
  | 75, _ => exact ⟨_, rfl⟩
  | 76, _ => exact ⟨_, rfl⟩
  | 77, _ => exact ⟨_, rfl⟩
  | 78, _ => exact ⟨_, rfl⟩
  | 79, _ => exact ⟨_, rfl⟩
  | 80, _ => exact ⟨_, rfl⟩
  | 81, _ => exact ⟨_, rfl⟩
  | k + 82, h => omega
theorem st_D (hD : va_D A (iW_6 cy q0 u ++ iW_7 cy v)) : (∀ c, c < 82 → A (ad0 q0 u v b adK c)) ∧ ∀ i j, i < 82 → j < 82 → ad0 q0 u v b adK i = ad0 q0 u v b adK j → i = j := by
  refine ⟨fun c hc => ?_, fun i j hi hj e => ?_⟩
  · obtain ⟨x, hx⟩ := st_pos (cy := cy) (q0 := q0) (u := u) (v := v) (b := b) (adK := adK) c hc
    exact hD.2 _ _ hx
  · obtain ⟨x, hx⟩ := st_pos (cy := cy) (q0 := q0) (u := u) (v := v) (b := b) (adK := adK) i hi
    obtain ⟨y, hy⟩ := st_pos (cy := cy) (q0 := q0) (u := u) (v := v) (b := b) (adK := adK) j hj
    exact posL_inj i hi j hj (hD.1 _ _ _ _ hx hy e)
set_option maxHeartbeats 8000000 in
set_option maxRecDepth 100000 in
theorem st_P0 (hP : va_P D vwCl (iW_6 cy q0 u ++ iW_7 cy v) H) : ∀ c, 0 ≤ c → c < 24 → c ≠ 45 → c ≠ 52 → va_at D vwCl (ad0 q0 u v b adK c, zce (ad0 q0 u v b adK) cy (s0 (u.1 4).2 (u.1 5).2 (u.1 6).2) c) H := by
  intro c h1 h2 h45 h52
  match c, h1, h2, h45, h52 with
  | 0, _, _, _, _ => exact hP 0 _ rfl
  | 1, _, _, _, _ => exact hP 61 _ rfl
  | 2, _, _, _, _ => exact hP 62 _ rfl
  | 3, _, _, _, _ => exact hP 63 _ rfl
  | 4, _, _, _, _ => exact hP 51 _ rfl
  | 5, _, _, _, _ => exact hP 52 _ rfl
  | 6, _, _, _, _ => exact hP 53 _ rfl
  | 7, _, _, _, _ => exact hP 54 _ rfl
  | 8, _, _, _, _ => exact hP 55 _ rfl
  | 9, _, _, _, _ => exact hP 56 _ rfl
  | 10, _, _, _, _ => exact hP 57 _ rfl
  | 11, _, _, _, _ => exact hP 58 _ rfl
  | 12, _, _, _, _ => exact hP 59 _ rfl
  | 13, _, _, _, _ => exact hP 60 _ rfl
  | 14, _, _, _, _ => exact hP 41 _ rfl
  | 15, _, _, _, _ => exact hP 42 _ rfl
  | 16, _, _, _, _ => exact hP 43 _ rfl
  | 17, _, _, _, _ => exact hP 44 _ rfl
  | 18, _, _, _, _ => exact hP 45 _ rfl
  | 19, _, _, _, _ => exact hP 46 _ rfl
  | 20, _, _, _, _ => exact hP 47 _ rfl
  | 21, _, _, _, _ => exact hP 48 _ rfl
  | 22, _, _, _, _ => exact hP 49 _ rfl
  | 23, _, _, _, _ => exact hP 50 _ rfl
  | k + 24, _, h, _, _ => omega
set_option maxHeartbeats 8000000 in
set_option maxRecDepth 100000 in
theorem st_P24 (hP : va_P D vwCl (iW_6 cy q0 u ++ iW_7 cy v) H) : ∀ c, 24 ≤ c → c < 46 → c ≠ 45 → c ≠ 52 → va_at D vwCl (ad0 q0 u v b adK c, zce (ad0 q0 u v b adK) cy (s0 (u.1 4).2 (u.1 5).2 (u.1 6).2) c) H := by
  intro c h1 h2 h45 h52
  match c, h1, h2, h45, h52 with
  | 24, _, _, _, _ => exact hP 34 _ rfl
  | 25, _, _, _, _ => exact hP 35 _ rfl
  | 26, _, _, _, _ => exact hP 36 _ rfl
  | 27, _, _, _, _ => exact hP 37 _ rfl
  | 28, _, _, _, _ => exact hP 38 _ rfl
  | 29, _, _, _, _ => exact hP 39 _ rfl
  | 30, _, _, _, _ => exact hP 40 _ rfl
  | 31, _, _, _, _ => exact hP 27 _ rfl
  | 32, _, _, _, _ => exact hP 28 _ rfl
  | 33, _, _, _, _ => exact hP 29 _ rfl
  | 34, _, _, _, _ => exact hP 30 _ rfl
  | 35, _, _, _, _ => exact hP 31 _ rfl
  | 36, _, _, _, _ => exact hP 32 _ rfl
  | 37, _, _, _, _ => exact hP 33 _ rfl
  | 38, _, _, _, _ => exact hP 20 _ rfl
  | 39, _, _, _, _ => exact hP 21 _ rfl
  | 40, _, _, _, _ => exact hP 22 _ rfl
  | 41, _, _, _, _ => exact hP 23 _ rfl
  | 42, _, _, _, _ => exact hP 24 _ rfl
  | 43, _, _, _, _ => exact hP 25 _ rfl
  | 44, _, _, _, _ => exact hP 26 _ rfl
  | 45, _, _, h45, h52 => exact absurd rfl h45
  | 0, h, _, _, _ => exact absurd h (by decide)
  | 1, h, _, _, _ => exact absurd h (by decide)
  | 2, h, _, _, _ => exact absurd h (by decide)
  | 3, h, _, _, _ => exact absurd h (by decide)
  | 4, h, _, _, _ => exact absurd h (by decide)
  | 5, h, _, _, _ => exact absurd h (by decide)
  | 6, h, _, _, _ => exact absurd h (by decide)
  | 7, h, _, _, _ => exact absurd h (by decide)
  | 8, h, _, _, _ => exact absurd h (by decide)
  | 9, h, _, _, _ => exact absurd h (by decide)
  | 10, h, _, _, _ => exact absurd h (by decide)
  | 11, h, _, _, _ => exact absurd h (by decide)
  | 12, h, _, _, _ => exact absurd h (by decide)
  | 13, h, _, _, _ => exact absurd h (by decide)
  | 14, h, _, _, _ => exact absurd h (by decide)
  | 15, h, _, _, _ => exact absurd h (by decide)
  | 16, h, _, _, _ => exact absurd h (by decide)
  | 17, h, _, _, _ => exact absurd h (by decide)
  | 18, h, _, _, _ => exact absurd h (by decide)
  | 19, h, _, _, _ => exact absurd h (by decide)
  | 20, h, _, _, _ => exact absurd h (by decide)
  | 21, h, _, _, _ => exact absurd h (by decide)
  | 22, h, _, _, _ => exact absurd h (by decide)
  | 23, h, _, _, _ => exact absurd h (by decide)
  | k + 46, _, h, _, _ => omega
set_option maxHeartbeats 8000000 in
set_option maxRecDepth 100000 in
theorem st_P46 (hP : va_P D vwCl (iW_6 cy q0 u ++ iW_7 cy v) H) : ∀ c, 46 ≤ c → c < 64 → c ≠ 45 → c ≠ 52 → va_at D vwCl (ad0 q0 u v b adK c, zce (ad0 q0 u v b adK) cy (s0 (u.1 4).2 (u.1 5).2 (u.1 6).2) c) H := by
  intro c h1 h2 h45 h52
  match c, h1, h2, h45, h52 with
  | 46, _, _, _, _ => exact hP 19 _ rfl
  | 47, _, _, _, _ => exact hP 6 _ rfl
  | 48, _, _, _, _ => exact hP 7 _ rfl
  | 49, _, _, _, _ => exact hP 8 _ rfl
  | 50, _, _, _, _ => exact hP 9 _ rfl
  | 51, _, _, _, _ => exact hP 10 _ rfl
  | 52, _, _, h45, h52 => exact absurd rfl h52
  | 53, _, _, _, _ => exact hP 12 _ rfl
  | 54, _, _, _, _ => exact hP 13 _ rfl
  | 55, _, _, _, _ => exact hP 14 _ rfl
  | 56, _, _, _, _ => exact hP 15 _ rfl
  | 57, _, _, _, _ => exact hP 16 _ rfl
  | 58, _, _, _, _ => exact hP 17 _ rfl
  | 59, _, _, _, _ => exact hP 18 _ rfl
  | 60, _, _, _, _ => exact hP 4 _ rfl
  | 61, _, _, _, _ => exact hP 5 _ rfl
  | 62, _, _, _, _ => exact hP 2 _ rfl
  | 63, _, _, _, _ => exact hP 3 _ rfl
  | 0, h, _, _, _ => exact absurd h (by decide)
  | 1, h, _, _, _ => exact absurd h (by decide)
  | 2, h, _, _, _ => exact absurd h (by decide)
  | 3, h, _, _, _ => exact absurd h (by decide)
  | 4, h, _, _, _ => exact absurd h (by decide)
  | 5, h, _, _, _ => exact absurd h (by decide)
  | 6, h, _, _, _ => exact absurd h (by decide)
  | 7, h, _, _, _ => exact absurd h (by decide)
  | 8, h, _, _, _ => exact absurd h (by decide)
  | 9, h, _, _, _ => exact absurd h (by decide)
  | 10, h, _, _, _ => exact absurd h (by decide)
  | 11, h, _, _, _ => exact absurd h (by decide)
  | 12, h, _, _, _ => exact absurd h (by decide)
  | 13, h, _, _, _ => exact absurd h (by decide)
  | 14, h, _, _, _ => exact absurd h (by decide)
  | 15, h, _, _, _ => exact absurd h (by decide)
  | 16, h, _, _, _ => exact absurd h (by decide)
  | 17, h, _, _, _ => exact absurd h (by decide)
  | 18, h, _, _, _ => exact absurd h (by decide)
  | 19, h, _, _, _ => exact absurd h (by decide)
  | 20, h, _, _, _ => exact absurd h (by decide)
  | 21, h, _, _, _ => exact absurd h (by decide)
  | 22, h, _, _, _ => exact absurd h (by decide)
  | 23, h, _, _, _ => exact absurd h (by decide)
  | 24, h, _, _, _ => exact absurd h (by decide)
  | 25, h, _, _, _ => exact absurd h (by decide)
  | 26, h, _, _, _ => exact absurd h (by decide)
  | 27, h, _, _, _ => exact absurd h (by decide)
  | 28, h, _, _, _ => exact absurd h (by decide)
  | 29, h, _, _, _ => exact absurd h (by decide)
  | 30, h, _, _, _ => exact absurd h (by decide)
  | 31, h, _, _, _ => exact absurd h (by decide)
  | 32, h, _, _, _ => exact absurd h (by decide)
  | 33, h, _, _, _ => exact absurd h (by decide)
  | 34, h, _, _, _ => exact absurd h (by decide)
  | 35, h, _, _, _ => exact absurd h (by decide)
  | 36, h, _, _, _ => exact absurd h (by decide)
  | 37, h, _, _, _ => exact absurd h (by decide)
  | 38, h, _, _, _ => exact absurd h (by decide)
  | 39, h, _, _, _ => exact absurd h (by decide)
  | 40, h, _, _, _ => exact absurd h (by decide)
  | 41, h, _, _, _ => exact absurd h (by decide)
  | 42, h, _, _, _ => exact absurd h (by decide)
  | 43, h, _, _, _ => exact absurd h (by decide)
  | 44, h, _, _, _ => exact absurd h (by decide)
  | 45, h, _, _, _ => exact absurd h (by decide)
  | k + 64, _, h, _, _ => omega
set_option maxHeartbeats 8000000 in
set_option maxRecDepth 100000 in
theorem st_P64 (hP : va_P D vwCl (iW_6 cy q0 u ++ iW_7 cy v) H) : ∀ c, 64 ≤ c → c < 82 → c ≠ 45 → c ≠ 52 → va_at D vwCl (ad0 q0 u v b adK c, zce (ad0 q0 u v b adK) cy (s0 (u.1 4).2 (u.1 5).2 (u.1 6).2) c) H := by
  intro c h1 h2 h45 h52
  match c, h1, h2, h45, h52 with
  | 64, _, _, _, _ => exact hP 64 _ rfl
  | 65, _, _, _, _ => exact hP 65 _ rfl
  | 66, _, _, _, _ => exact hP 66 _ rfl
  | 67, _, _, _, _ => exact hP 67 _ rfl
  | 68, _, _, _, _ => exact hP 68 _ rfl
  | 69, _, _, _, _ => exact hP 69 _ rfl
  | 70, _, _, _, _ => exact hP 70 _ rfl
  | 71, _, _, _, _ => exact hP 71 _ rfl
  | 72, _, _, _, _ => exact hP 72 _ rfl
  | 73, _, _, _, _ => exact hP 73 _ rfl
  | 74, _, _, _, _ => exact hP 74 _ rfl
  | 75, _, _, _, _ => exact hP 75 _ rfl
  | 76, _, _, _, _ => exact hP 76 _ rfl
  | 77, _, _, _, _ => exact hP 77 _ rfl
  | 78, _, _, _, _ => exact hP 78 _ rfl
  | 79, _, _, _, _ => exact hP 79 _ rfl
  | 80, _, _, _, _ => exact hP 80 _ rfl
  | 81, _, _, _, _ => exact hP 81 _ rfl
  | 0, h, _, _, _ => exact absurd h (by decide)
  | 1, h, _, _, _ => exact absurd h (by decide)
  | 2, h, _, _, _ => exact absurd h (by decide)
  | 3, h, _, _, _ => exact absurd h (by decide)
  | 4, h, _, _, _ => exact absurd h (by decide)
  | 5, h, _, _, _ => exact absurd h (by decide)
  | 6, h, _, _, _ => exact absurd h (by decide)
  | 7, h, _, _, _ => exact absurd h (by decide)
  | 8, h, _, _, _ => exact absurd h (by decide)
  | 9, h, _, _, _ => exact absurd h (by decide)
  | 10, h, _, _, _ => exact absurd h (by decide)
  | 11, h, _, _, _ => exact absurd h (by decide)
  | 12, h, _, _, _ => exact absurd h (by decide)
  | 13, h, _, _, _ => exact absurd h (by decide)
  | 14, h, _, _, _ => exact absurd h (by decide)
  | 15, h, _, _, _ => exact absurd h (by decide)
  | 16, h, _, _, _ => exact absurd h (by decide)
  | 17, h, _, _, _ => exact absurd h (by decide)
  | 18, h, _, _, _ => exact absurd h (by decide)
  | 19, h, _, _, _ => exact absurd h (by decide)
  | 20, h, _, _, _ => exact absurd h (by decide)
  | 21, h, _, _, _ => exact absurd h (by decide)
  | 22, h, _, _, _ => exact absurd h (by decide)
  | 23, h, _, _, _ => exact absurd h (by decide)
  | 24, h, _, _, _ => exact absurd h (by decide)
  | 25, h, _, _, _ => exact absurd h (by decide)
  | 26, h, _, _, _ => exact absurd h (by decide)
  | 27, h, _, _, _ => exact absurd h (by decide)
  | 28, h, _, _, _ => exact absurd h (by decide)
  | 29, h, _, _, _ => exact absurd h (by decide)
  | 30, h, _, _, _ => exact absurd h (by decide)
  | 31, h, _, _, _ => exact absurd h (by decide)
  | 32, h, _, _, _ => exact absurd h (by decide)
  | 33, h, _, _, _ => exact absurd h (by decide)
  | 34, h, _, _, _ => exact absurd h (by decide)
  | 35, h, _, _, _ => exact absurd h (by decide)
  | 36, h, _, _, _ => exact absurd h (by decide)
  | 37, h, _, _, _ => exact absurd h (by decide)
  | 38, h, _, _, _ => exact absurd h (by decide)
  | 39, h, _, _, _ => exact absurd h (by decide)
  | 40, h, _, _, _ => exact absurd h (by decide)
  | 41, h, _, _, _ => exact absurd h (by decide)
  | 42, h, _, _, _ => exact absurd h (by decide)
  | 43, h, _, _, _ => exact absurd h (by decide)
  | 44, h, _, _, _ => exact absurd h (by decide)
  | 45, h, _, _, _ => exact absurd h (by decide)
  | 46, h, _, _, _ => exact absurd h (by decide)
  | 47, h, _, _, _ => exact absurd h (by decide)
  | 48, h, _, _, _ => exact absurd h (by decide)
  | 49, h, _, _, _ => exact absurd h (by decide)
  | 50, h, _, _, _ => exact absurd h (by decide)
  | 51, h, _, _, _ => exact absurd h (by decide)
  | 52, h, _, _, _ => exact absurd h (by decide)
  | 53, h, _, _, _ => exact absurd h (by decide)
  | 54, h, _, _, _ => exact absurd h (by decide)
  | 55, h, _, _, _ => exact absurd h (by decide)
  | 56, h, _, _, _ => exact absurd h (by decide)
  | 57, h, _, _, _ => exact absurd h (by decide)
  | 58, h, _, _, _ => exact absurd h (by decide)
  | 59, h, _, _, _ => exact absurd h (by decide)
  | 60, h, _, _, _ => exact absurd h (by decide)
  | 61, h, _, _, _ => exact absurd h (by decide)
  | 62, h, _, _, _ => exact absurd h (by decide)
  | 63, h, _, _, _ => exact absurd h (by decide)
  | k + 82, _, h, _, _ => omega
theorem st_P45 (hP : va_P D vwCl (iW_6 cy q0 u ++ iW_7 cy v) H) : va_at D vwCl (ad0 q0 u v b adK 45, zce (ad0 q0 u v b adK) cy (s0 (u.1 4).2 (u.1 5).2 (u.1 6).2) 45) H := by
  have h : H[u.2.1]? = some (vp_cell (cy 104) (2, _)) := hP 1 _ rfl
  rw [vp_cell_q] at h
  rw [zce_r (k := 104) rfl (by decide)]
  show H[u.2.1]? = some (vp_cell (cy 104) (2, _))
  rw [vp_cell_q, h]
  refine congrArg some (arrV_congr (fun j hj => ?_))
  match j, hj with
  | 0, _ => rfl
  | 1, _ => rfl
  | k + 2, h => omega
theorem st_P52 (hP : va_P D vwCl (iW_6 cy q0 u ++ iW_7 cy v) H) : va_at D vwCl (ad0 q0 u v b adK 52, zce (ad0 q0 u v b adK) cy (s0 (u.1 4).2 (u.1 5).2 (u.1 6).2) 52) H := by
  have h : H[(u.1 7).1 5]? = some (vp_cell (cy 105) (7, _)) := hP 11 _ rfl
  rw [vp_cell_q] at h
  rw [zce_r (k := 105) rfl (by decide)]
  show H[(u.1 7).1 5]? = some (vp_cell (cy 105) (7, _))
  rw [vp_cell_q, h]
  refine congrArg some (arrV_congr (fun j hj => ?_))
  match j, hj with
  | 0, _ => rfl
  | 1, _ => rfl
  | 2, _ => rfl
  | 3, _ => rfl
  | 4, _ => rfl
  | 5, _ => rfl
  | 6, _ => rfl
  | k + 7, h => omega
theorem st_P (hP : va_P D vwCl (iW_6 cy q0 u ++ iW_7 cy v) H) : va_P D vwCl (zwl (ad0 q0 u v b adK) cy (s0 (u.1 4).2 (u.1 5).2 (u.1 6).2)) H := by
  intro k q hq
  obtain ⟨hk, rfl⟩ := zwl_inv hq
  by_cases e1 : k = 45
  · subst e1; exact st_P45 hP
  by_cases e2 : k = 52
  · subst e2; exact st_P52 hP
  rcases Nat.lt_or_ge k 24 with h | h
  · exact st_P0 hP k (Nat.zero_le _) h e1 e2
  rcases Nat.lt_or_ge k 46 with h2 | h2
  · exact st_P24 hP k h h2 e1 e2
  rcases Nat.lt_or_ge k 64 with h3 | h3
  · exact st_P46 hP k h2 h3 e1 e2
  · exact st_P64 hP k h3 hk e1 e2
end ST
