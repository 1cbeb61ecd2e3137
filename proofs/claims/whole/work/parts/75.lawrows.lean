/-! ===== the law's rows on my machine ===== -/
theorem yZ_iff {E : zEr} {SC : zSc} {tb : List (Nat × zIn)} {X : zKc} {pc : Nat} {lv : zLv} {st : List Value} {σ : zSt} (w : zIn) (hf : zfind tb pc = some w) (hX : ∀ lv st σ, ¬ X pc lv st σ) : yZ E SC tb X pc lv st σ ↔ zex E SC (fun _ _ => False) (yZ E SC tb X) w pc lv st σ := by
  refine ⟨?_, yZ_at w hf⟩
  rintro ⟨n, h⟩
  cases n with
  | zero => exact absurd h (hX _ _ _)
  | succ n =>
    rcases h with h | h
    · exact absurd h (hX _ _ _)
    · rw [hf] at h
      rcases zex_one h with ⟨pc', lv', st', σ', h1, h2⟩ | ⟨rv, σ', h1, h2⟩
      · exact h2 _ _ ⟨n, h1⟩
      · exact h1.elim
/-- where a walk of the law's body may stop: at its head again, or ahead of its end -/
def LX (L i : Nat) : zKc := fun pc lv st σ => (pc = 18 ∧ i + 5 ≤ L ∧ lv = [(0, .ref 1000), (1, .ref 0), (2, .ref 64), (3, .int (nI (i + 5)))] ∧ st = [] ∧ ∃ S, WfS S ∧ (Gc S σ ∨ Gc S (zsp σ)) ∧ Gm S σ) ∨ (pc = 925 ∧ st = [])
theorem LX_no {L i pc : Nat} (h1 : Nat.beq pc 18 = false) (h2 : Nat.beq pc 925 = false) : ∀ lv st σ, ¬ LX L i pc lv st σ := by
  rintro lv st σ (⟨rfl, -⟩ | ⟨rfl, -⟩)
  · cases h1
  · cases h2
def zlt : List (Nat × zIn) := zt150.drop 10
def YL (L : Nat) (xs : Nat → Int32) (i : Nat) (pc : Nat) (lv : zLv) (st : List Value) (σ : zSt) : Prop := yZ (yE 8) (1, L, xs) zlt (LX L i) pc lv st σ
section GL
variable {L : Nat} {xs : Nat → Int32} {i : Nat} {lv : zLv} {st : List Value} {σ : zSt}
theorem g150_19  : YL L xs i 19 lv st σ ↔ zldR lv 0 (fun x => YL L xs i 20 lv (.ref x :: st) σ) := yZ_iff (.aload_n 0, 1, 0, 0, 0, 0, []) rfl (LX_no rfl rfl)
theorem g150_20 {c : Nat} : YL L xs i 20 lv (.ref c :: st) σ ↔ (c = 1000 ∧ (1 : Nat) = 1) ∧ YL L xs i 21 lv (.int (Int32.ofNat L) :: st) σ := yZ_iff (.arraylength, 1, 1, 0, 0, 0, []) rfl (LX_no rfl rfl)
theorem g150_21  : YL L xs i 21 lv st σ ↔ YL L xs i 22 lv (.int 5 :: st) σ := yZ_iff (.iconst 5, 1, 0, 0, 0, 0, []) rfl (LX_no rfl rfl)
theorem g150_22 {x y : Int32} : YL L xs i 22 lv (.int y :: .int x :: st) σ ↔ YL L xs i 23 lv (.int (x - y) :: st) σ := yZ_iff (.isub, 1, 0, 0, 0, 0, []) rfl (LX_no rfl rfl)
theorem g150_23 {x y : Int32} : YL L xs i 23 lv (.int y :: .int x :: st) σ ↔ (y < x → YL L xs i 925 lv st σ) ∧ (¬ y < x → YL L xs i 26 lv st σ) := yZ_iff (.if_icmp .gt 902, 3, 925, 0, 0, 0, []) rfl (LX_no rfl rfl)
theorem g150_26  : YL L xs i 26 lv st σ ↔ zldR lv 0 (fun x => YL L xs i 27 lv (.ref x :: st) σ) := yZ_iff (.aload_n 0, 1, 0, 0, 0, 0, []) rfl (LX_no rfl rfl)
theorem g150_27  : YL L xs i 27 lv st σ ↔ zldI lv 3 (fun x => YL L xs i 28 lv (.int x :: st) σ) := yZ_iff (.iload_n 3, 1, 0, 0, 0, 0, []) rfl (LX_no rfl rfl)
theorem g150_28 {j : Int32} {c : Nat} : YL L xs i 28 lv (.int j :: .ref c :: st) σ ↔ (c = 1000 ∧ (1 : Nat) = 1 ∧ vp_in j L) ∧ YL L xs i 29 lv (.int (xs j.toNatClampNeg) :: st) σ := yZ_iff (.iaload, 1, 1, 0, 0, 0, []) rfl (LX_no rfl rfl)
theorem g150_29  : YL L xs i 29 lv st σ ↔ YL L xs i 31 lv (.int 31 :: st) σ := yZ_iff (.bipush 31, 2, 0, 0, 0, 0, []) rfl (LX_no rfl rfl)
theorem g150_31 {x y : Int32} : YL L xs i 31 lv (.int y :: .int x :: st) σ ↔ YL L xs i 32 lv (.int (x &&& y) :: st) σ := yZ_iff (.iand, 1, 0, 0, 0, 0, []) rfl (LX_no rfl rfl)
theorem g150_32 {x : Int32} : YL L xs i 32 lv (.int x :: st) σ ↔ (x = 0 → YL L xs i 156 lv st σ) ∧ (¬ x = 0 → ((x = 1 → YL L xs i 219 lv st σ) ∧ (¬ x = 1 → ((x = 2 → YL L xs i 232 lv st σ) ∧ (¬ x = 2 → ((x = 3 → YL L xs i 245 lv st σ) ∧ (¬ x = 3 → ((x = 4 → YL L xs i 278 lv st σ) ∧ (¬ x = 4 → ((x = 5 → YL L xs i 311 lv st σ) ∧ (¬ x = 5 → ((x = 6 → YL L xs i 344 lv st σ) ∧ (¬ x = 6 → ((x = 7 → YL L xs i 367 lv st σ) ∧ (¬ x = 7 → ((x = 8 → YL L xs i 390 lv st σ) ∧ (¬ x = 8 → ((x = 9 → YL L xs i 413 lv st σ) ∧ (¬ x = 9 → ((x = 10 → YL L xs i 446 lv st σ) ∧ (¬ x = 10 → ((x = 11 → YL L xs i 459 lv st σ) ∧ (¬ x = 11 → ((x = 12 → YL L xs i 472 lv st σ) ∧ (¬ x = 12 → ((x = 13 → YL L xs i 495 lv st σ) ∧ (¬ x = 13 → ((x = 14 → YL L xs i 528 lv st σ) ∧ (¬ x = 14 → ((x = 15 → YL L xs i 561 lv st σ) ∧ (¬ x = 15 → ((x = 16 → YL L xs i 614 lv st σ) ∧ (¬ x = 16 → ((x = 17 → YL L xs i 658 lv st σ) ∧ (¬ x = 17 → ((x = 18 → YL L xs i 701 lv st σ) ∧ (¬ x = 18 → ((x = 19 → YL L xs i 714 lv st σ) ∧ (¬ x = 19 → ((x = 20 → YL L xs i 737 lv st σ) ∧ (¬ x = 20 → ((x = 21 → YL L xs i 760 lv st σ) ∧ (¬ x = 21 → ((x = 22 → YL L xs i 803 lv st σ) ∧ (¬ x = 22 → ((x = 23 → YL L xs i 836 lv st σ) ∧ (¬ x = 23 → ((x = 24 → YL L xs i 859 lv st σ) ∧ (¬ x = 24 → ((x = 25 → YL L xs i 882 lv st σ) ∧ (¬ x = 25 → ((x = 26 → YL L xs i 905 lv st σ) ∧ (¬ x = 26 → (YL L xs i 919 lv st σ)))))))))))))))))))))))))))))))))))))))))))))))))))))) := yZ_iff (.tableswitch 887 0 26 #[124, 187, 200, 213, 246, 279, 312, 335, 358, 381, 414, 427, 440, 463, 496, 529, 582, 626, 669, 682, 705, 728, 771, 804, 827, 850, 873], 124, 919, 0, 0, 0, [(0, 156), (1, 219), (2, 232), (3, 245), (4, 278), (5, 311), (6, 344), (7, 367), (8, 390), (9, 413), (10, 446), (11, 459), (12, 472), (13, 495), (14, 528), (15, 561), (16, 614), (17, 658), (18, 701), (19, 714), (20, 737), (21, 760), (22, 803), (23, 836), (24, 859), (25, 882), (26, 905)]) rfl (LX_no rfl rfl)
theorem g150_156  : YL L xs i 156 lv st σ ↔ zldR lv 1 (fun x => YL L xs i 157 lv (.ref x :: st) σ) := yZ_iff (.aload_n 1, 1, 0, 0, 0, 0, []) rfl (LX_no rfl rfl)
theorem g150_157  : YL L xs i 157 lv st σ ↔ zldR lv 0 (fun x => YL L xs i 158 lv (.ref x :: st) σ) := yZ_iff (.aload_n 0, 1, 0, 0, 0, 0, []) rfl (LX_no rfl rfl)
theorem g150_158  : YL L xs i 158 lv st σ ↔ zldI lv 3 (fun x => YL L xs i 159 lv (.int x :: st) σ) := yZ_iff (.iload_n 3, 1, 0, 0, 0, 0, []) rfl (LX_no rfl rfl)
theorem g150_159  : YL L xs i 159 lv st σ ↔ YL L xs i 160 lv (.int 1 :: st) σ := yZ_iff (.iconst 1, 1, 0, 0, 0, 0, []) rfl (LX_no rfl rfl)
theorem g150_160 {x y : Int32} : YL L xs i 160 lv (.int y :: .int x :: st) σ ↔ YL L xs i 161 lv (.int (x + y) :: st) σ := yZ_iff (.iadd, 1, 0, 0, 0, 0, []) rfl (LX_no rfl rfl)
theorem g150_161 {j : Int32} {c : Nat} : YL L xs i 161 lv (.int j :: .ref c :: st) σ ↔ (c = 1000 ∧ (1 : Nat) = 1 ∧ vp_in j L) ∧ YL L xs i 162 lv (.int (xs j.toNatClampNeg) :: st) σ := yZ_iff (.iaload, 1, 1, 0, 0, 0, []) rfl (LX_no rfl rfl)
theorem g150_162 {x : Int32} : YL L xs i 162 lv (.int x :: st) σ ↔ YL L xs i 163 lv (.long x.toInt64 :: st) σ := yZ_iff (.i2l, 1, 0, 0, 0, 0, []) rfl (LX_no rfl rfl)
theorem g150_163  : YL L xs i 163 lv st σ ↔ YL L xs i 165 lv (.int 32 :: st) σ := yZ_iff (.bipush 32, 2, 0, 0, 0, 0, []) rfl (LX_no rfl rfl)
theorem g150_165 {x : Int64} {y : Int32} : YL L xs i 165 lv (.int y :: .long x :: st) σ ↔ YL L xs i 166 lv (.long (x <<< (y.toInt64 &&& 63)) :: st) σ := yZ_iff (.lshl, 1, 0, 0, 0, 0, []) rfl (LX_no rfl rfl)
theorem g150_166  : YL L xs i 166 lv st σ ↔ zldR lv 0 (fun x => YL L xs i 167 lv (.ref x :: st) σ) := yZ_iff (.aload_n 0, 1, 0, 0, 0, 0, []) rfl (LX_no rfl rfl)
theorem g150_167  : YL L xs i 167 lv st σ ↔ zldI lv 3 (fun x => YL L xs i 168 lv (.int x :: st) σ) := yZ_iff (.iload_n 3, 1, 0, 0, 0, 0, []) rfl (LX_no rfl rfl)
theorem g150_168  : YL L xs i 168 lv st σ ↔ YL L xs i 169 lv (.int 2 :: st) σ := yZ_iff (.iconst 2, 1, 0, 0, 0, 0, []) rfl (LX_no rfl rfl)
theorem g150_169 {x y : Int32} : YL L xs i 169 lv (.int y :: .int x :: st) σ ↔ YL L xs i 170 lv (.int (x + y) :: st) σ := yZ_iff (.iadd, 1, 0, 0, 0, 0, []) rfl (LX_no rfl rfl)
theorem g150_170 {j : Int32} {c : Nat} : YL L xs i 170 lv (.int j :: .ref c :: st) σ ↔ (c = 1000 ∧ (1 : Nat) = 1 ∧ vp_in j L) ∧ YL L xs i 171 lv (.int (xs j.toNatClampNeg) :: st) σ := yZ_iff (.iaload, 1, 1, 0, 0, 0, []) rfl (LX_no rfl rfl)
theorem g150_171 {x : Int32} : YL L xs i 171 lv (.int x :: st) σ ↔ YL L xs i 172 lv (.long x.toInt64 :: st) σ := yZ_iff (.i2l, 1, 0, 0, 0, 0, []) rfl (LX_no rfl rfl)
theorem g150_172  : YL L xs i 172 lv st σ ↔ YL L xs i 175 lv (.long 4294967295 :: st) σ := yZ_iff (.ldc2_w 13, 3, 0, 0, 272, 4294967295, []) rfl (LX_no rfl rfl)
theorem g150_175 {x y : Int64} : YL L xs i 175 lv (.long y :: .long x :: st) σ ↔ YL L xs i 176 lv (.long (x &&& y) :: st) σ := yZ_iff (.land, 1, 0, 0, 0, 0, []) rfl (LX_no rfl rfl)
theorem g150_176 {x y : Int64} : YL L xs i 176 lv (.long y :: .long x :: st) σ ↔ YL L xs i 177 lv (.long (x ||| y) :: st) σ := yZ_iff (.lor, 1, 0, 0, 0, 0, []) rfl (LX_no rfl rfl)
theorem g150_177  : YL L xs i 177 lv st σ ↔ zldR lv 0 (fun x => YL L xs i 178 lv (.ref x :: st) σ) := yZ_iff (.aload_n 0, 1, 0, 0, 0, 0, []) rfl (LX_no rfl rfl)
theorem g150_178  : YL L xs i 178 lv st σ ↔ zldI lv 3 (fun x => YL L xs i 179 lv (.int x :: st) σ) := yZ_iff (.iload_n 3, 1, 0, 0, 0, 0, []) rfl (LX_no rfl rfl)
theorem g150_179  : YL L xs i 179 lv st σ ↔ YL L xs i 180 lv (.int 3 :: st) σ := yZ_iff (.iconst 3, 1, 0, 0, 0, 0, []) rfl (LX_no rfl rfl)
theorem g150_180 {x y : Int32} : YL L xs i 180 lv (.int y :: .int x :: st) σ ↔ YL L xs i 181 lv (.int (x + y) :: st) σ := yZ_iff (.iadd, 1, 0, 0, 0, 0, []) rfl (LX_no rfl rfl)
theorem g150_181 {j : Int32} {c : Nat} : YL L xs i 181 lv (.int j :: .ref c :: st) σ ↔ (c = 1000 ∧ (1 : Nat) = 1 ∧ vp_in j L) ∧ YL L xs i 182 lv (.int (xs j.toNatClampNeg) :: st) σ := yZ_iff (.iaload, 1, 1, 0, 0, 0, []) rfl (LX_no rfl rfl)
theorem g150_182 {v0 v1 : Value} {c : Nat} : YL L xs i 182 lv (v1 :: v0 :: .ref c :: st) σ ↔ (zrcv 6 c ∧ zrm st) ∧ ∃ rv σ', yE 8 55 [.ref c, v0, v1] σ rv σ' ∧ YL L xs i 185 lv (rv.toList ++ st) σ' := yZ_iff (.invokevirtual 15, 3, 55, 2, 273, 0, []) rfl (LX_no rfl rfl)
theorem g150_185  : YL L xs i 185 lv st σ ↔ zldR lv 2 (fun x => YL L xs i 186 lv (.ref x :: st) σ) := yZ_iff (.aload_n 2, 1, 0, 0, 0, 0, []) rfl (LX_no rfl rfl)
theorem g150_186  : YL L xs i 186 lv st σ ↔ zldR lv 0 (fun x => YL L xs i 187 lv (.ref x :: st) σ) := yZ_iff (.aload_n 0, 1, 0, 0, 0, 0, []) rfl (LX_no rfl rfl)
theorem g150_187  : YL L xs i 187 lv st σ ↔ zldI lv 3 (fun x => YL L xs i 188 lv (.int x :: st) σ) := yZ_iff (.iload_n 3, 1, 0, 0, 0, 0, []) rfl (LX_no rfl rfl)
theorem g150_188  : YL L xs i 188 lv st σ ↔ YL L xs i 189 lv (.int 1 :: st) σ := yZ_iff (.iconst 1, 1, 0, 0, 0, 0, []) rfl (LX_no rfl rfl)
theorem g150_189 {x y : Int32} : YL L xs i 189 lv (.int y :: .int x :: st) σ ↔ YL L xs i 190 lv (.int (x + y) :: st) σ := yZ_iff (.iadd, 1, 0, 0, 0, 0, []) rfl (LX_no rfl rfl)
theorem g150_190 {j : Int32} {c : Nat} : YL L xs i 190 lv (.int j :: .ref c :: st) σ ↔ (c = 1000 ∧ (1 : Nat) = 1 ∧ vp_in j L) ∧ YL L xs i 191 lv (.int (xs j.toNatClampNeg) :: st) σ := yZ_iff (.iaload, 1, 1, 0, 0, 0, []) rfl (LX_no rfl rfl)
theorem g150_191 {x : Int32} : YL L xs i 191 lv (.int x :: st) σ ↔ YL L xs i 192 lv (.long x.toInt64 :: st) σ := yZ_iff (.i2l, 1, 0, 0, 0, 0, []) rfl (LX_no rfl rfl)
theorem g150_192  : YL L xs i 192 lv st σ ↔ YL L xs i 194 lv (.int 32 :: st) σ := yZ_iff (.bipush 32, 2, 0, 0, 0, 0, []) rfl (LX_no rfl rfl)
theorem g150_194 {x : Int64} {y : Int32} : YL L xs i 194 lv (.int y :: .long x :: st) σ ↔ YL L xs i 195 lv (.long (x <<< (y.toInt64 &&& 63)) :: st) σ := yZ_iff (.lshl, 1, 0, 0, 0, 0, []) rfl (LX_no rfl rfl)
theorem g150_195  : YL L xs i 195 lv st σ ↔ zldR lv 0 (fun x => YL L xs i 196 lv (.ref x :: st) σ) := yZ_iff (.aload_n 0, 1, 0, 0, 0, 0, []) rfl (LX_no rfl rfl)
theorem g150_196  : YL L xs i 196 lv st σ ↔ zldI lv 3 (fun x => YL L xs i 197 lv (.int x :: st) σ) := yZ_iff (.iload_n 3, 1, 0, 0, 0, 0, []) rfl (LX_no rfl rfl)
theorem g150_197  : YL L xs i 197 lv st σ ↔ YL L xs i 198 lv (.int 2 :: st) σ := yZ_iff (.iconst 2, 1, 0, 0, 0, 0, []) rfl (LX_no rfl rfl)
theorem g150_198 {x y : Int32} : YL L xs i 198 lv (.int y :: .int x :: st) σ ↔ YL L xs i 199 lv (.int (x + y) :: st) σ := yZ_iff (.iadd, 1, 0, 0, 0, 0, []) rfl (LX_no rfl rfl)
theorem g150_199 {j : Int32} {c : Nat} : YL L xs i 199 lv (.int j :: .ref c :: st) σ ↔ (c = 1000 ∧ (1 : Nat) = 1 ∧ vp_in j L) ∧ YL L xs i 200 lv (.int (xs j.toNatClampNeg) :: st) σ := yZ_iff (.iaload, 1, 1, 0, 0, 0, []) rfl (LX_no rfl rfl)
theorem g150_200 {x : Int32} : YL L xs i 200 lv (.int x :: st) σ ↔ YL L xs i 201 lv (.long x.toInt64 :: st) σ := yZ_iff (.i2l, 1, 0, 0, 0, 0, []) rfl (LX_no rfl rfl)
set_option maxRecDepth 100000 in
theorem g150_201  : YL L xs i 201 lv st σ ↔ YL L xs i 204 lv (.long 4294967295 :: st) σ := yZ_iff (.ldc2_w 13, 3, 0, 0, 272, 4294967295, []) rfl (LX_no rfl rfl)
set_option maxRecDepth 100000 in
theorem g150_204 {x y : Int64} : YL L xs i 204 lv (.long y :: .long x :: st) σ ↔ YL L xs i 205 lv (.long (x &&& y) :: st) σ := yZ_iff (.land, 1, 0, 0, 0, 0, []) rfl (LX_no rfl rfl)
set_option maxRecDepth 100000 in
theorem g150_205 {x y : Int64} : YL L xs i 205 lv (.long y :: .long x :: st) σ ↔ YL L xs i 206 lv (.long (x ||| y) :: st) σ := yZ_iff (.lor, 1, 0, 0, 0, 0, []) rfl (LX_no rfl rfl)
set_option maxRecDepth 100000 in
theorem g150_206  : YL L xs i 206 lv st σ ↔ zldR lv 0 (fun x => YL L xs i 207 lv (.ref x :: st) σ) := yZ_iff (.aload_n 0, 1, 0, 0, 0, 0, []) rfl (LX_no rfl rfl)
set_option maxRecDepth 100000 in
theorem g150_207  : YL L xs i 207 lv st σ ↔ zldI lv 3 (fun x => YL L xs i 208 lv (.int x :: st) σ) := yZ_iff (.iload_n 3, 1, 0, 0, 0, 0, []) rfl (LX_no rfl rfl)
set_option maxRecDepth 100000 in
theorem g150_208  : YL L xs i 208 lv st σ ↔ YL L xs i 209 lv (.int 3 :: st) σ := yZ_iff (.iconst 3, 1, 0, 0, 0, 0, []) rfl (LX_no rfl rfl)
set_option maxRecDepth 100000 in
theorem g150_209 {x y : Int32} : YL L xs i 209 lv (.int y :: .int x :: st) σ ↔ YL L xs i 210 lv (.int (x + y) :: st) σ := yZ_iff (.iadd, 1, 0, 0, 0, 0, []) rfl (LX_no rfl rfl)
set_option maxRecDepth 100000 in
theorem g150_210 {j : Int32} {c : Nat} : YL L xs i 210 lv (.int j :: .ref c :: st) σ ↔ (c = 1000 ∧ (1 : Nat) = 1 ∧ vp_in j L) ∧ YL L xs i 211 lv (.int (xs j.toNatClampNeg) :: st) σ := yZ_iff (.iaload, 1, 1, 0, 0, 0, []) rfl (LX_no rfl rfl)
set_option maxRecDepth 100000 in
theorem g150_211 {v0 v1 : Value} {c : Nat} : YL L xs i 211 lv (v1 :: v0 :: .ref c :: st) σ ↔ (zrcv 7 c ∧ zrm st) ∧ ∃ rv σ', yE 8 97 [.ref c, v0, v1] σ rv σ' ∧ YL L xs i 214 lv (rv.toList ++ st) σ' := yZ_iff (.invokevirtual 19, 3, 97, 2, 274, 0, []) rfl (LX_no rfl rfl)
set_option maxRecDepth 100000 in
theorem g150_214 {x y : Int32} : YL L xs i 214 lv (.int y :: .int x :: st) σ ↔ (x = y → YL L xs i 919 lv st σ) ∧ (¬ x = y → YL L xs i 217 lv st σ) := yZ_iff (.if_icmp .eq 705, 3, 919, 0, 0, 0, []) rfl (LX_no rfl rfl)
set_option maxRecDepth 100000 in
theorem g150_217  : YL L xs i 217 lv st σ ↔ YL L xs i 218 lv (.int 0 :: st) σ := yZ_iff (.iconst 0, 1, 0, 0, 0, 0, []) rfl (LX_no rfl rfl)
set_option maxRecDepth 100000 in
theorem g150_219  : YL L xs i 219 lv st σ ↔ zldR lv 1 (fun x => YL L xs i 220 lv (.ref x :: st) σ) := yZ_iff (.aload_n 1, 1, 0, 0, 0, 0, []) rfl (LX_no rfl rfl)
set_option maxRecDepth 100000 in
theorem g150_220 {c : Nat} : YL L xs i 220 lv (.ref c :: st) σ ↔ (zrcv 6 c ∧ zrm st) ∧ ∃ rv σ', yE 8 56 [.ref c] σ rv σ' ∧ YL L xs i 223 lv (rv.toList ++ st) σ' := yZ_iff (.invokevirtual 20, 3, 56, 0, 275, 0, []) rfl (LX_no rfl rfl)
set_option maxRecDepth 100000 in
theorem g150_223  : YL L xs i 223 lv st σ ↔ zldR lv 2 (fun x => YL L xs i 224 lv (.ref x :: st) σ) := yZ_iff (.aload_n 2, 1, 0, 0, 0, 0, []) rfl (LX_no rfl rfl)
set_option maxRecDepth 100000 in
theorem g150_224 {c : Nat} : YL L xs i 224 lv (.ref c :: st) σ ↔ (zrcv 7 c ∧ zrm st) ∧ ∃ rv σ', yE 8 98 [.ref c] σ rv σ' ∧ YL L xs i 227 lv (rv.toList ++ st) σ' := yZ_iff (.invokevirtual 24, 3, 98, 0, 276, 0, []) rfl (LX_no rfl rfl)
set_option maxRecDepth 100000 in
theorem g150_227 {x y : Int32} : YL L xs i 227 lv (.int y :: .int x :: st) σ ↔ (x = y → YL L xs i 919 lv st σ) ∧ (¬ x = y → YL L xs i 230 lv st σ) := yZ_iff (.if_icmp .eq 692, 3, 919, 0, 0, 0, []) rfl (LX_no rfl rfl)
set_option maxRecDepth 100000 in
theorem g150_230  : YL L xs i 230 lv st σ ↔ YL L xs i 231 lv (.int 0 :: st) σ := yZ_iff (.iconst 0, 1, 0, 0, 0, 0, []) rfl (LX_no rfl rfl)
set_option maxRecDepth 100000 in
theorem g150_232  : YL L xs i 232 lv st σ ↔ zldR lv 1 (fun x => YL L xs i 233 lv (.ref x :: st) σ) := yZ_iff (.aload_n 1, 1, 0, 0, 0, 0, []) rfl (LX_no rfl rfl)
set_option maxRecDepth 100000 in
theorem g150_233 {c : Nat} : YL L xs i 233 lv (.ref c :: st) σ ↔ (zrcv 6 c ∧ zrm st) ∧ ∃ rv σ', yE 8 57 [.ref c] σ rv σ' ∧ YL L xs i 236 lv (rv.toList ++ st) σ' := yZ_iff (.invokevirtual 25, 3, 57, 0, 277, 0, []) rfl (LX_no rfl rfl)
set_option maxRecDepth 100000 in
theorem g150_236  : YL L xs i 236 lv st σ ↔ zldR lv 2 (fun x => YL L xs i 237 lv (.ref x :: st) σ) := yZ_iff (.aload_n 2, 1, 0, 0, 0, 0, []) rfl (LX_no rfl rfl)
set_option maxRecDepth 100000 in
theorem g150_237 {c : Nat} : YL L xs i 237 lv (.ref c :: st) σ ↔ (zrcv 7 c ∧ zrm st) ∧ ∃ rv σ', yE 8 103 [.ref c] σ rv σ' ∧ YL L xs i 240 lv (rv.toList ++ st) σ' := yZ_iff (.invokevirtual 28, 3, 103, 0, 278, 0, []) rfl (LX_no rfl rfl)
set_option maxRecDepth 100000 in
theorem g150_240 {x y : Int32} : YL L xs i 240 lv (.int y :: .int x :: st) σ ↔ (x = y → YL L xs i 919 lv st σ) ∧ (¬ x = y → YL L xs i 243 lv st σ) := yZ_iff (.if_icmp .eq 679, 3, 919, 0, 0, 0, []) rfl (LX_no rfl rfl)
set_option maxRecDepth 100000 in
theorem g150_243  : YL L xs i 243 lv st σ ↔ YL L xs i 244 lv (.int 0 :: st) σ := yZ_iff (.iconst 0, 1, 0, 0, 0, 0, []) rfl (LX_no rfl rfl)
set_option maxRecDepth 100000 in
theorem g150_245  : YL L xs i 245 lv st σ ↔ zldR lv 1 (fun x => YL L xs i 246 lv (.ref x :: st) σ) := yZ_iff (.aload_n 1, 1, 0, 0, 0, 0, []) rfl (LX_no rfl rfl)
set_option maxRecDepth 100000 in
theorem g150_246  : YL L xs i 246 lv st σ ↔ zldR lv 0 (fun x => YL L xs i 247 lv (.ref x :: st) σ) := yZ_iff (.aload_n 0, 1, 0, 0, 0, 0, []) rfl (LX_no rfl rfl)
set_option maxRecDepth 100000 in
theorem g150_247  : YL L xs i 247 lv st σ ↔ zldI lv 3 (fun x => YL L xs i 248 lv (.int x :: st) σ) := yZ_iff (.iload_n 3, 1, 0, 0, 0, 0, []) rfl (LX_no rfl rfl)
set_option maxRecDepth 100000 in
theorem g150_248  : YL L xs i 248 lv st σ ↔ YL L xs i 249 lv (.int 1 :: st) σ := yZ_iff (.iconst 1, 1, 0, 0, 0, 0, []) rfl (LX_no rfl rfl)
set_option maxRecDepth 100000 in
theorem g150_249 {x y : Int32} : YL L xs i 249 lv (.int y :: .int x :: st) σ ↔ YL L xs i 250 lv (.int (x + y) :: st) σ := yZ_iff (.iadd, 1, 0, 0, 0, 0, []) rfl (LX_no rfl rfl)
set_option maxRecDepth 100000 in
theorem g150_250 {j : Int32} {c : Nat} : YL L xs i 250 lv (.int j :: .ref c :: st) σ ↔ (c = 1000 ∧ (1 : Nat) = 1 ∧ vp_in j L) ∧ YL L xs i 251 lv (.int (xs j.toNatClampNeg) :: st) σ := yZ_iff (.iaload, 1, 1, 0, 0, 0, []) rfl (LX_no rfl rfl)
set_option maxRecDepth 100000 in
theorem g150_251  : YL L xs i 251 lv st σ ↔ zldR lv 0 (fun x => YL L xs i 252 lv (.ref x :: st) σ) := yZ_iff (.aload_n 0, 1, 0, 0, 0, 0, []) rfl (LX_no rfl rfl)
set_option maxRecDepth 100000 in
theorem g150_252  : YL L xs i 252 lv st σ ↔ zldI lv 3 (fun x => YL L xs i 253 lv (.int x :: st) σ) := yZ_iff (.iload_n 3, 1, 0, 0, 0, 0, []) rfl (LX_no rfl rfl)
set_option maxRecDepth 100000 in
theorem g150_253  : YL L xs i 253 lv st σ ↔ YL L xs i 254 lv (.int 2 :: st) σ := yZ_iff (.iconst 2, 1, 0, 0, 0, 0, []) rfl (LX_no rfl rfl)
set_option maxRecDepth 100000 in
theorem g150_254 {x y : Int32} : YL L xs i 254 lv (.int y :: .int x :: st) σ ↔ YL L xs i 255 lv (.int (x + y) :: st) σ := yZ_iff (.iadd, 1, 0, 0, 0, 0, []) rfl (LX_no rfl rfl)
set_option maxRecDepth 100000 in
theorem g150_255 {j : Int32} {c : Nat} : YL L xs i 255 lv (.int j :: .ref c :: st) σ ↔ (c = 1000 ∧ (1 : Nat) = 1 ∧ vp_in j L) ∧ YL L xs i 256 lv (.int (xs j.toNatClampNeg) :: st) σ := yZ_iff (.iaload, 1, 1, 0, 0, 0, []) rfl (LX_no rfl rfl)
set_option maxRecDepth 100000 in
theorem g150_256 {v0 v1 : Value} {c : Nat} : YL L xs i 256 lv (v1 :: v0 :: .ref c :: st) σ ↔ (zrcv 6 c ∧ zrm st) ∧ ∃ rv σ', yE 8 58 [.ref c, v0, v1] σ rv σ' ∧ YL L xs i 259 lv (rv.toList ++ st) σ' := yZ_iff (.invokevirtual 29, 3, 58, 2, 279, 0, []) rfl (LX_no rfl rfl)
set_option maxRecDepth 100000 in
theorem g150_259  : YL L xs i 259 lv st σ ↔ zldR lv 2 (fun x => YL L xs i 260 lv (.ref x :: st) σ) := yZ_iff (.aload_n 2, 1, 0, 0, 0, 0, []) rfl (LX_no rfl rfl)
set_option maxRecDepth 100000 in
theorem g150_260  : YL L xs i 260 lv st σ ↔ zldR lv 0 (fun x => YL L xs i 261 lv (.ref x :: st) σ) := yZ_iff (.aload_n 0, 1, 0, 0, 0, 0, []) rfl (LX_no rfl rfl)
set_option maxRecDepth 100000 in
theorem g150_261  : YL L xs i 261 lv st σ ↔ zldI lv 3 (fun x => YL L xs i 262 lv (.int x :: st) σ) := yZ_iff (.iload_n 3, 1, 0, 0, 0, 0, []) rfl (LX_no rfl rfl)
set_option maxRecDepth 100000 in
theorem g150_262  : YL L xs i 262 lv st σ ↔ YL L xs i 263 lv (.int 1 :: st) σ := yZ_iff (.iconst 1, 1, 0, 0, 0, 0, []) rfl (LX_no rfl rfl)
set_option maxRecDepth 100000 in
theorem g150_263 {x y : Int32} : YL L xs i 263 lv (.int y :: .int x :: st) σ ↔ YL L xs i 264 lv (.int (x + y) :: st) σ := yZ_iff (.iadd, 1, 0, 0, 0, 0, []) rfl (LX_no rfl rfl)
set_option maxRecDepth 100000 in
theorem g150_264 {j : Int32} {c : Nat} : YL L xs i 264 lv (.int j :: .ref c :: st) σ ↔ (c = 1000 ∧ (1 : Nat) = 1 ∧ vp_in j L) ∧ YL L xs i 265 lv (.int (xs j.toNatClampNeg) :: st) σ := yZ_iff (.iaload, 1, 1, 0, 0, 0, []) rfl (LX_no rfl rfl)
set_option maxRecDepth 100000 in
theorem g150_265  : YL L xs i 265 lv st σ ↔ zldR lv 0 (fun x => YL L xs i 266 lv (.ref x :: st) σ) := yZ_iff (.aload_n 0, 1, 0, 0, 0, 0, []) rfl (LX_no rfl rfl)
set_option maxRecDepth 100000 in
theorem g150_266  : YL L xs i 266 lv st σ ↔ zldI lv 3 (fun x => YL L xs i 267 lv (.int x :: st) σ) := yZ_iff (.iload_n 3, 1, 0, 0, 0, 0, []) rfl (LX_no rfl rfl)
set_option maxRecDepth 100000 in
theorem g150_267  : YL L xs i 267 lv st σ ↔ YL L xs i 268 lv (.int 2 :: st) σ := yZ_iff (.iconst 2, 1, 0, 0, 0, 0, []) rfl (LX_no rfl rfl)
set_option maxRecDepth 100000 in
theorem g150_268 {x y : Int32} : YL L xs i 268 lv (.int y :: .int x :: st) σ ↔ YL L xs i 269 lv (.int (x + y) :: st) σ := yZ_iff (.iadd, 1, 0, 0, 0, 0, []) rfl (LX_no rfl rfl)
set_option maxRecDepth 100000 in
theorem g150_269 {j : Int32} {c : Nat} : YL L xs i 269 lv (.int j :: .ref c :: st) σ ↔ (c = 1000 ∧ (1 : Nat) = 1 ∧ vp_in j L) ∧ YL L xs i 270 lv (.int (xs j.toNatClampNeg) :: st) σ := yZ_iff (.iaload, 1, 1, 0, 0, 0, []) rfl (LX_no rfl rfl)
set_option maxRecDepth 100000 in
theorem g150_270 {v0 v1 : Value} {c : Nat} : YL L xs i 270 lv (v1 :: v0 :: .ref c :: st) σ ↔ (zrcv 7 c ∧ zrm st) ∧ ∃ rv σ', yE 8 104 [.ref c, v0, v1] σ rv σ' ∧ YL L xs i 273 lv (rv.toList ++ st) σ' := yZ_iff (.invokevirtual 33, 3, 104, 2, 280, 0, []) rfl (LX_no rfl rfl)
set_option maxRecDepth 100000 in
theorem g150_273 {x y : Int32} : YL L xs i 273 lv (.int y :: .int x :: st) σ ↔ (x = y → YL L xs i 919 lv st σ) ∧ (¬ x = y → YL L xs i 276 lv st σ) := yZ_iff (.if_icmp .eq 646, 3, 919, 0, 0, 0, []) rfl (LX_no rfl rfl)
set_option maxRecDepth 100000 in
theorem g150_276  : YL L xs i 276 lv st σ ↔ YL L xs i 277 lv (.int 0 :: st) σ := yZ_iff (.iconst 0, 1, 0, 0, 0, 0, []) rfl (LX_no rfl rfl)
set_option maxRecDepth 100000 in
theorem g150_278  : YL L xs i 278 lv st σ ↔ zldR lv 1 (fun x => YL L xs i 279 lv (.ref x :: st) σ) := yZ_iff (.aload_n 1, 1, 0, 0, 0, 0, []) rfl (LX_no rfl rfl)
set_option maxRecDepth 100000 in
theorem g150_279  : YL L xs i 279 lv st σ ↔ zldR lv 0 (fun x => YL L xs i 280 lv (.ref x :: st) σ) := yZ_iff (.aload_n 0, 1, 0, 0, 0, 0, []) rfl (LX_no rfl rfl)
set_option maxRecDepth 100000 in
theorem g150_280  : YL L xs i 280 lv st σ ↔ zldI lv 3 (fun x => YL L xs i 281 lv (.int x :: st) σ) := yZ_iff (.iload_n 3, 1, 0, 0, 0, 0, []) rfl (LX_no rfl rfl)
set_option maxRecDepth 100000 in
theorem g150_281  : YL L xs i 281 lv st σ ↔ YL L xs i 282 lv (.int 1 :: st) σ := yZ_iff (.iconst 1, 1, 0, 0, 0, 0, []) rfl (LX_no rfl rfl)
set_option maxRecDepth 100000 in
theorem g150_282 {x y : Int32} : YL L xs i 282 lv (.int y :: .int x :: st) σ ↔ YL L xs i 283 lv (.int (x + y) :: st) σ := yZ_iff (.iadd, 1, 0, 0, 0, 0, []) rfl (LX_no rfl rfl)
set_option maxRecDepth 100000 in
theorem g150_283 {j : Int32} {c : Nat} : YL L xs i 283 lv (.int j :: .ref c :: st) σ ↔ (c = 1000 ∧ (1 : Nat) = 1 ∧ vp_in j L) ∧ YL L xs i 284 lv (.int (xs j.toNatClampNeg) :: st) σ := yZ_iff (.iaload, 1, 1, 0, 0, 0, []) rfl (LX_no rfl rfl)
set_option maxRecDepth 100000 in
theorem g150_284  : YL L xs i 284 lv st σ ↔ zldR lv 0 (fun x => YL L xs i 285 lv (.ref x :: st) σ) := yZ_iff (.aload_n 0, 1, 0, 0, 0, 0, []) rfl (LX_no rfl rfl)
set_option maxRecDepth 100000 in
theorem g150_285  : YL L xs i 285 lv st σ ↔ zldI lv 3 (fun x => YL L xs i 286 lv (.int x :: st) σ) := yZ_iff (.iload_n 3, 1, 0, 0, 0, 0, []) rfl (LX_no rfl rfl)
set_option maxRecDepth 100000 in
theorem g150_286  : YL L xs i 286 lv st σ ↔ YL L xs i 287 lv (.int 2 :: st) σ := yZ_iff (.iconst 2, 1, 0, 0, 0, 0, []) rfl (LX_no rfl rfl)
set_option maxRecDepth 100000 in
theorem g150_287 {x y : Int32} : YL L xs i 287 lv (.int y :: .int x :: st) σ ↔ YL L xs i 288 lv (.int (x + y) :: st) σ := yZ_iff (.iadd, 1, 0, 0, 0, 0, []) rfl (LX_no rfl rfl)
set_option maxRecDepth 100000 in
theorem g150_288 {j : Int32} {c : Nat} : YL L xs i 288 lv (.int j :: .ref c :: st) σ ↔ (c = 1000 ∧ (1 : Nat) = 1 ∧ vp_in j L) ∧ YL L xs i 289 lv (.int (xs j.toNatClampNeg) :: st) σ := yZ_iff (.iaload, 1, 1, 0, 0, 0, []) rfl (LX_no rfl rfl)
set_option maxRecDepth 100000 in
theorem g150_289 {v0 v1 : Value} {c : Nat} : YL L xs i 289 lv (v1 :: v0 :: .ref c :: st) σ ↔ (zrcv 6 c ∧ zrm st) ∧ ∃ rv σ', yE 8 59 [.ref c, v0, v1] σ rv σ' ∧ YL L xs i 292 lv (rv.toList ++ st) σ' := yZ_iff (.invokevirtual 34, 3, 59, 2, 281, 0, []) rfl (LX_no rfl rfl)
set_option maxRecDepth 100000 in
theorem g150_292  : YL L xs i 292 lv st σ ↔ zldR lv 2 (fun x => YL L xs i 293 lv (.ref x :: st) σ) := yZ_iff (.aload_n 2, 1, 0, 0, 0, 0, []) rfl (LX_no rfl rfl)
set_option maxRecDepth 100000 in
theorem g150_293  : YL L xs i 293 lv st σ ↔ zldR lv 0 (fun x => YL L xs i 294 lv (.ref x :: st) σ) := yZ_iff (.aload_n 0, 1, 0, 0, 0, 0, []) rfl (LX_no rfl rfl)
set_option maxRecDepth 100000 in
theorem g150_294  : YL L xs i 294 lv st σ ↔ zldI lv 3 (fun x => YL L xs i 295 lv (.int x :: st) σ) := yZ_iff (.iload_n 3, 1, 0, 0, 0, 0, []) rfl (LX_no rfl rfl)
set_option maxRecDepth 100000 in
theorem g150_295  : YL L xs i 295 lv st σ ↔ YL L xs i 296 lv (.int 1 :: st) σ := yZ_iff (.iconst 1, 1, 0, 0, 0, 0, []) rfl (LX_no rfl rfl)
set_option maxRecDepth 100000 in
theorem g150_296 {x y : Int32} : YL L xs i 296 lv (.int y :: .int x :: st) σ ↔ YL L xs i 297 lv (.int (x + y) :: st) σ := yZ_iff (.iadd, 1, 0, 0, 0, 0, []) rfl (LX_no rfl rfl)
set_option maxRecDepth 100000 in
theorem g150_297 {j : Int32} {c : Nat} : YL L xs i 297 lv (.int j :: .ref c :: st) σ ↔ (c = 1000 ∧ (1 : Nat) = 1 ∧ vp_in j L) ∧ YL L xs i 298 lv (.int (xs j.toNatClampNeg) :: st) σ := yZ_iff (.iaload, 1, 1, 0, 0, 0, []) rfl (LX_no rfl rfl)
set_option maxRecDepth 100000 in
theorem g150_298  : YL L xs i 298 lv st σ ↔ zldR lv 0 (fun x => YL L xs i 299 lv (.ref x :: st) σ) := yZ_iff (.aload_n 0, 1, 0, 0, 0, 0, []) rfl (LX_no rfl rfl)
set_option maxRecDepth 100000 in
theorem g150_299  : YL L xs i 299 lv st σ ↔ zldI lv 3 (fun x => YL L xs i 300 lv (.int x :: st) σ) := yZ_iff (.iload_n 3, 1, 0, 0, 0, 0, []) rfl (LX_no rfl rfl)
set_option maxRecDepth 100000 in
theorem g150_300  : YL L xs i 300 lv st σ ↔ YL L xs i 301 lv (.int 2 :: st) σ := yZ_iff (.iconst 2, 1, 0, 0, 0, 0, []) rfl (LX_no rfl rfl)
set_option maxRecDepth 100000 in
theorem g150_301 {x y : Int32} : YL L xs i 301 lv (.int y :: .int x :: st) σ ↔ YL L xs i 302 lv (.int (x + y) :: st) σ := yZ_iff (.iadd, 1, 0, 0, 0, 0, []) rfl (LX_no rfl rfl)
set_option maxRecDepth 100000 in
theorem g150_302 {j : Int32} {c : Nat} : YL L xs i 302 lv (.int j :: .ref c :: st) σ ↔ (c = 1000 ∧ (1 : Nat) = 1 ∧ vp_in j L) ∧ YL L xs i 303 lv (.int (xs j.toNatClampNeg) :: st) σ := yZ_iff (.iaload, 1, 1, 0, 0, 0, []) rfl (LX_no rfl rfl)
set_option maxRecDepth 100000 in
theorem g150_303 {v0 v1 : Value} {c : Nat} : YL L xs i 303 lv (v1 :: v0 :: .ref c :: st) σ ↔ (zrcv 7 c ∧ zrm st) ∧ ∃ rv σ', yE 8 106 [.ref c, v0, v1] σ rv σ' ∧ YL L xs i 306 lv (rv.toList ++ st) σ' := yZ_iff (.invokevirtual 37, 3, 106, 2, 282, 0, []) rfl (LX_no rfl rfl)
set_option maxRecDepth 100000 in
theorem g150_306 {x y : Int32} : YL L xs i 306 lv (.int y :: .int x :: st) σ ↔ (x = y → YL L xs i 919 lv st σ) ∧ (¬ x = y → YL L xs i 309 lv st σ) := yZ_iff (.if_icmp .eq 613, 3, 919, 0, 0, 0, []) rfl (LX_no rfl rfl)
set_option maxRecDepth 100000 in
theorem g150_309  : YL L xs i 309 lv st σ ↔ YL L xs i 310 lv (.int 0 :: st) σ := yZ_iff (.iconst 0, 1, 0, 0, 0, 0, []) rfl (LX_no rfl rfl)
set_option maxRecDepth 100000 in
theorem g150_311  : YL L xs i 311 lv st σ ↔ zldR lv 1 (fun x => YL L xs i 312 lv (.ref x :: st) σ) := yZ_iff (.aload_n 1, 1, 0, 0, 0, 0, []) rfl (LX_no rfl rfl)
set_option maxRecDepth 100000 in
theorem g150_312  : YL L xs i 312 lv st σ ↔ zldR lv 0 (fun x => YL L xs i 313 lv (.ref x :: st) σ) := yZ_iff (.aload_n 0, 1, 0, 0, 0, 0, []) rfl (LX_no rfl rfl)
set_option maxRecDepth 100000 in
theorem g150_313  : YL L xs i 313 lv st σ ↔ zldI lv 3 (fun x => YL L xs i 314 lv (.int x :: st) σ) := yZ_iff (.iload_n 3, 1, 0, 0, 0, 0, []) rfl (LX_no rfl rfl)
set_option maxRecDepth 100000 in
theorem g150_314  : YL L xs i 314 lv st σ ↔ YL L xs i 315 lv (.int 1 :: st) σ := yZ_iff (.iconst 1, 1, 0, 0, 0, 0, []) rfl (LX_no rfl rfl)
set_option maxRecDepth 100000 in
theorem g150_315 {x y : Int32} : YL L xs i 315 lv (.int y :: .int x :: st) σ ↔ YL L xs i 316 lv (.int (x + y) :: st) σ := yZ_iff (.iadd, 1, 0, 0, 0, 0, []) rfl (LX_no rfl rfl)
set_option maxRecDepth 100000 in
theorem g150_316 {j : Int32} {c : Nat} : YL L xs i 316 lv (.int j :: .ref c :: st) σ ↔ (c = 1000 ∧ (1 : Nat) = 1 ∧ vp_in j L) ∧ YL L xs i 317 lv (.int (xs j.toNatClampNeg) :: st) σ := yZ_iff (.iaload, 1, 1, 0, 0, 0, []) rfl (LX_no rfl rfl)
set_option maxRecDepth 100000 in
theorem g150_317  : YL L xs i 317 lv st σ ↔ zldR lv 0 (fun x => YL L xs i 318 lv (.ref x :: st) σ) := yZ_iff (.aload_n 0, 1, 0, 0, 0, 0, []) rfl (LX_no rfl rfl)
set_option maxRecDepth 100000 in
theorem g150_318  : YL L xs i 318 lv st σ ↔ zldI lv 3 (fun x => YL L xs i 319 lv (.int x :: st) σ) := yZ_iff (.iload_n 3, 1, 0, 0, 0, 0, []) rfl (LX_no rfl rfl)
set_option maxRecDepth 100000 in
theorem g150_319  : YL L xs i 319 lv st σ ↔ YL L xs i 320 lv (.int 2 :: st) σ := yZ_iff (.iconst 2, 1, 0, 0, 0, 0, []) rfl (LX_no rfl rfl)
set_option maxRecDepth 100000 in
theorem g150_320 {x y : Int32} : YL L xs i 320 lv (.int y :: .int x :: st) σ ↔ YL L xs i 321 lv (.int (x + y) :: st) σ := yZ_iff (.iadd, 1, 0, 0, 0, 0, []) rfl (LX_no rfl rfl)
set_option maxRecDepth 100000 in
theorem g150_321 {j : Int32} {c : Nat} : YL L xs i 321 lv (.int j :: .ref c :: st) σ ↔ (c = 1000 ∧ (1 : Nat) = 1 ∧ vp_in j L) ∧ YL L xs i 322 lv (.int (xs j.toNatClampNeg) :: st) σ := yZ_iff (.iaload, 1, 1, 0, 0, 0, []) rfl (LX_no rfl rfl)
set_option maxRecDepth 100000 in
theorem g150_322 {v0 v1 : Value} {c : Nat} : YL L xs i 322 lv (v1 :: v0 :: .ref c :: st) σ ↔ (zrcv 6 c ∧ zrm st) ∧ ∃ rv σ', yE 8 60 [.ref c, v0, v1] σ rv σ' ∧ YL L xs i 325 lv (rv.toList ++ st) σ' := yZ_iff (.invokevirtual 38, 3, 60, 2, 283, 0, []) rfl (LX_no rfl rfl)
set_option maxRecDepth 100000 in
theorem g150_325  : YL L xs i 325 lv st σ ↔ zldR lv 2 (fun x => YL L xs i 326 lv (.ref x :: st) σ) := yZ_iff (.aload_n 2, 1, 0, 0, 0, 0, []) rfl (LX_no rfl rfl)
set_option maxRecDepth 100000 in
theorem g150_326  : YL L xs i 326 lv st σ ↔ zldR lv 0 (fun x => YL L xs i 327 lv (.ref x :: st) σ) := yZ_iff (.aload_n 0, 1, 0, 0, 0, 0, []) rfl (LX_no rfl rfl)
set_option maxRecDepth 100000 in
theorem g150_327  : YL L xs i 327 lv st σ ↔ zldI lv 3 (fun x => YL L xs i 328 lv (.int x :: st) σ) := yZ_iff (.iload_n 3, 1, 0, 0, 0, 0, []) rfl (LX_no rfl rfl)
set_option maxRecDepth 100000 in
theorem g150_328  : YL L xs i 328 lv st σ ↔ YL L xs i 329 lv (.int 1 :: st) σ := yZ_iff (.iconst 1, 1, 0, 0, 0, 0, []) rfl (LX_no rfl rfl)
set_option maxRecDepth 100000 in
theorem g150_329 {x y : Int32} : YL L xs i 329 lv (.int y :: .int x :: st) σ ↔ YL L xs i 330 lv (.int (x + y) :: st) σ := yZ_iff (.iadd, 1, 0, 0, 0, 0, []) rfl (LX_no rfl rfl)
set_option maxRecDepth 100000 in
theorem g150_330 {j : Int32} {c : Nat} : YL L xs i 330 lv (.int j :: .ref c :: st) σ ↔ (c = 1000 ∧ (1 : Nat) = 1 ∧ vp_in j L) ∧ YL L xs i 331 lv (.int (xs j.toNatClampNeg) :: st) σ := yZ_iff (.iaload, 1, 1, 0, 0, 0, []) rfl (LX_no rfl rfl)
set_option maxRecDepth 100000 in
theorem g150_331  : YL L xs i 331 lv st σ ↔ zldR lv 0 (fun x => YL L xs i 332 lv (.ref x :: st) σ) := yZ_iff (.aload_n 0, 1, 0, 0, 0, 0, []) rfl (LX_no rfl rfl)
set_option maxRecDepth 100000 in
theorem g150_332  : YL L xs i 332 lv st σ ↔ zldI lv 3 (fun x => YL L xs i 333 lv (.int x :: st) σ) := yZ_iff (.iload_n 3, 1, 0, 0, 0, 0, []) rfl (LX_no rfl rfl)
set_option maxRecDepth 100000 in
theorem g150_333  : YL L xs i 333 lv st σ ↔ YL L xs i 334 lv (.int 2 :: st) σ := yZ_iff (.iconst 2, 1, 0, 0, 0, 0, []) rfl (LX_no rfl rfl)
set_option maxRecDepth 100000 in
theorem g150_334 {x y : Int32} : YL L xs i 334 lv (.int y :: .int x :: st) σ ↔ YL L xs i 335 lv (.int (x + y) :: st) σ := yZ_iff (.iadd, 1, 0, 0, 0, 0, []) rfl (LX_no rfl rfl)
set_option maxRecDepth 100000 in
theorem g150_335 {j : Int32} {c : Nat} : YL L xs i 335 lv (.int j :: .ref c :: st) σ ↔ (c = 1000 ∧ (1 : Nat) = 1 ∧ vp_in j L) ∧ YL L xs i 336 lv (.int (xs j.toNatClampNeg) :: st) σ := yZ_iff (.iaload, 1, 1, 0, 0, 0, []) rfl (LX_no rfl rfl)
set_option maxRecDepth 100000 in
theorem g150_336 {v0 v1 : Value} {c : Nat} : YL L xs i 336 lv (v1 :: v0 :: .ref c :: st) σ ↔ (zrcv 7 c ∧ zrm st) ∧ ∃ rv σ', yE 8 107 [.ref c, v0, v1] σ rv σ' ∧ YL L xs i 339 lv (rv.toList ++ st) σ' := yZ_iff (.invokevirtual 41, 3, 107, 2, 284, 0, []) rfl (LX_no rfl rfl)
set_option maxRecDepth 100000 in
theorem g150_339 {x y : Int32} : YL L xs i 339 lv (.int y :: .int x :: st) σ ↔ (x = y → YL L xs i 919 lv st σ) ∧ (¬ x = y → YL L xs i 342 lv st σ) := yZ_iff (.if_icmp .eq 580, 3, 919, 0, 0, 0, []) rfl (LX_no rfl rfl)
set_option maxRecDepth 100000 in
theorem g150_342  : YL L xs i 342 lv st σ ↔ YL L xs i 343 lv (.int 0 :: st) σ := yZ_iff (.iconst 0, 1, 0, 0, 0, 0, []) rfl (LX_no rfl rfl)
set_option maxRecDepth 100000 in
theorem g150_344  : YL L xs i 344 lv st σ ↔ zldR lv 1 (fun x => YL L xs i 345 lv (.ref x :: st) σ) := yZ_iff (.aload_n 1, 1, 0, 0, 0, 0, []) rfl (LX_no rfl rfl)
set_option maxRecDepth 100000 in
theorem g150_345  : YL L xs i 345 lv st σ ↔ zldR lv 0 (fun x => YL L xs i 346 lv (.ref x :: st) σ) := yZ_iff (.aload_n 0, 1, 0, 0, 0, 0, []) rfl (LX_no rfl rfl)
set_option maxRecDepth 100000 in
theorem g150_346  : YL L xs i 346 lv st σ ↔ zldI lv 3 (fun x => YL L xs i 347 lv (.int x :: st) σ) := yZ_iff (.iload_n 3, 1, 0, 0, 0, 0, []) rfl (LX_no rfl rfl)
set_option maxRecDepth 100000 in
theorem g150_347  : YL L xs i 347 lv st σ ↔ YL L xs i 348 lv (.int 1 :: st) σ := yZ_iff (.iconst 1, 1, 0, 0, 0, 0, []) rfl (LX_no rfl rfl)
set_option maxRecDepth 100000 in
theorem g150_348 {x y : Int32} : YL L xs i 348 lv (.int y :: .int x :: st) σ ↔ YL L xs i 349 lv (.int (x + y) :: st) σ := yZ_iff (.iadd, 1, 0, 0, 0, 0, []) rfl (LX_no rfl rfl)
set_option maxRecDepth 100000 in
theorem g150_349 {j : Int32} {c : Nat} : YL L xs i 349 lv (.int j :: .ref c :: st) σ ↔ (c = 1000 ∧ (1 : Nat) = 1 ∧ vp_in j L) ∧ YL L xs i 350 lv (.int (xs j.toNatClampNeg) :: st) σ := yZ_iff (.iaload, 1, 1, 0, 0, 0, []) rfl (LX_no rfl rfl)
set_option maxRecDepth 100000 in
theorem g150_350 {v0 : Value} {c : Nat} : YL L xs i 350 lv (v0 :: .ref c :: st) σ ↔ (zrcv 6 c ∧ zrm st) ∧ ∃ rv σ', yE 8 61 [.ref c, v0] σ rv σ' ∧ YL L xs i 353 lv (rv.toList ++ st) σ' := yZ_iff (.invokevirtual 42, 3, 61, 1, 285, 0, []) rfl (LX_no rfl rfl)
set_option maxRecDepth 100000 in
theorem g150_353  : YL L xs i 353 lv st σ ↔ zldR lv 2 (fun x => YL L xs i 354 lv (.ref x :: st) σ) := yZ_iff (.aload_n 2, 1, 0, 0, 0, 0, []) rfl (LX_no rfl rfl)
set_option maxRecDepth 100000 in
theorem g150_354  : YL L xs i 354 lv st σ ↔ zldR lv 0 (fun x => YL L xs i 355 lv (.ref x :: st) σ) := yZ_iff (.aload_n 0, 1, 0, 0, 0, 0, []) rfl (LX_no rfl rfl)
set_option maxRecDepth 100000 in
theorem g150_355  : YL L xs i 355 lv st σ ↔ zldI lv 3 (fun x => YL L xs i 356 lv (.int x :: st) σ) := yZ_iff (.iload_n 3, 1, 0, 0, 0, 0, []) rfl (LX_no rfl rfl)
set_option maxRecDepth 100000 in
theorem g150_356  : YL L xs i 356 lv st σ ↔ YL L xs i 357 lv (.int 1 :: st) σ := yZ_iff (.iconst 1, 1, 0, 0, 0, 0, []) rfl (LX_no rfl rfl)
set_option maxRecDepth 100000 in
theorem g150_357 {x y : Int32} : YL L xs i 357 lv (.int y :: .int x :: st) σ ↔ YL L xs i 358 lv (.int (x + y) :: st) σ := yZ_iff (.iadd, 1, 0, 0, 0, 0, []) rfl (LX_no rfl rfl)
set_option maxRecDepth 100000 in
theorem g150_358 {j : Int32} {c : Nat} : YL L xs i 358 lv (.int j :: .ref c :: st) σ ↔ (c = 1000 ∧ (1 : Nat) = 1 ∧ vp_in j L) ∧ YL L xs i 359 lv (.int (xs j.toNatClampNeg) :: st) σ := yZ_iff (.iaload, 1, 1, 0, 0, 0, []) rfl (LX_no rfl rfl)
set_option maxRecDepth 100000 in
theorem g150_359 {v0 : Value} {c : Nat} : YL L xs i 359 lv (v0 :: .ref c :: st) σ ↔ (zrcv 7 c ∧ zrm st) ∧ ∃ rv σ', yE 8 112 [.ref c, v0] σ rv σ' ∧ YL L xs i 362 lv (rv.toList ++ st) σ' := yZ_iff (.invokevirtual 46, 3, 112, 1, 286, 0, []) rfl (LX_no rfl rfl)
set_option maxRecDepth 100000 in
theorem g150_362 {x y : Int32} : YL L xs i 362 lv (.int y :: .int x :: st) σ ↔ (x = y → YL L xs i 919 lv st σ) ∧ (¬ x = y → YL L xs i 365 lv st σ) := yZ_iff (.if_icmp .eq 557, 3, 919, 0, 0, 0, []) rfl (LX_no rfl rfl)
set_option maxRecDepth 100000 in
theorem g150_365  : YL L xs i 365 lv st σ ↔ YL L xs i 366 lv (.int 0 :: st) σ := yZ_iff (.iconst 0, 1, 0, 0, 0, 0, []) rfl (LX_no rfl rfl)
set_option maxRecDepth 100000 in
theorem g150_367  : YL L xs i 367 lv st σ ↔ zldR lv 1 (fun x => YL L xs i 368 lv (.ref x :: st) σ) := yZ_iff (.aload_n 1, 1, 0, 0, 0, 0, []) rfl (LX_no rfl rfl)
set_option maxRecDepth 100000 in
theorem g150_368  : YL L xs i 368 lv st σ ↔ zldR lv 0 (fun x => YL L xs i 369 lv (.ref x :: st) σ) := yZ_iff (.aload_n 0, 1, 0, 0, 0, 0, []) rfl (LX_no rfl rfl)
set_option maxRecDepth 100000 in
theorem g150_369  : YL L xs i 369 lv st σ ↔ zldI lv 3 (fun x => YL L xs i 370 lv (.int x :: st) σ) := yZ_iff (.iload_n 3, 1, 0, 0, 0, 0, []) rfl (LX_no rfl rfl)
set_option maxRecDepth 100000 in
theorem g150_370  : YL L xs i 370 lv st σ ↔ YL L xs i 371 lv (.int 1 :: st) σ := yZ_iff (.iconst 1, 1, 0, 0, 0, 0, []) rfl (LX_no rfl rfl)
set_option maxRecDepth 100000 in
theorem g150_371 {x y : Int32} : YL L xs i 371 lv (.int y :: .int x :: st) σ ↔ YL L xs i 372 lv (.int (x + y) :: st) σ := yZ_iff (.iadd, 1, 0, 0, 0, 0, []) rfl (LX_no rfl rfl)
set_option maxRecDepth 100000 in
theorem g150_372 {j : Int32} {c : Nat} : YL L xs i 372 lv (.int j :: .ref c :: st) σ ↔ (c = 1000 ∧ (1 : Nat) = 1 ∧ vp_in j L) ∧ YL L xs i 373 lv (.int (xs j.toNatClampNeg) :: st) σ := yZ_iff (.iaload, 1, 1, 0, 0, 0, []) rfl (LX_no rfl rfl)
set_option maxRecDepth 100000 in
theorem g150_373 {v0 : Value} {c : Nat} : YL L xs i 373 lv (v0 :: .ref c :: st) σ ↔ (zrcv 6 c ∧ zrm st) ∧ ∃ rv σ', yE 8 62 [.ref c, v0] σ rv σ' ∧ YL L xs i 376 lv (rv.toList ++ st) σ' := yZ_iff (.invokevirtual 47, 3, 62, 1, 287, 0, []) rfl (LX_no rfl rfl)
set_option maxRecDepth 100000 in
theorem g150_376  : YL L xs i 376 lv st σ ↔ zldR lv 2 (fun x => YL L xs i 377 lv (.ref x :: st) σ) := yZ_iff (.aload_n 2, 1, 0, 0, 0, 0, []) rfl (LX_no rfl rfl)
set_option maxRecDepth 100000 in
theorem g150_377  : YL L xs i 377 lv st σ ↔ zldR lv 0 (fun x => YL L xs i 378 lv (.ref x :: st) σ) := yZ_iff (.aload_n 0, 1, 0, 0, 0, 0, []) rfl (LX_no rfl rfl)
set_option maxRecDepth 100000 in
theorem g150_378  : YL L xs i 378 lv st σ ↔ zldI lv 3 (fun x => YL L xs i 379 lv (.int x :: st) σ) := yZ_iff (.iload_n 3, 1, 0, 0, 0, 0, []) rfl (LX_no rfl rfl)
set_option maxRecDepth 100000 in
theorem g150_379  : YL L xs i 379 lv st σ ↔ YL L xs i 380 lv (.int 1 :: st) σ := yZ_iff (.iconst 1, 1, 0, 0, 0, 0, []) rfl (LX_no rfl rfl)
set_option maxRecDepth 100000 in
theorem g150_380 {x y : Int32} : YL L xs i 380 lv (.int y :: .int x :: st) σ ↔ YL L xs i 381 lv (.int (x + y) :: st) σ := yZ_iff (.iadd, 1, 0, 0, 0, 0, []) rfl (LX_no rfl rfl)
set_option maxRecDepth 100000 in
theorem g150_381 {j : Int32} {c : Nat} : YL L xs i 381 lv (.int j :: .ref c :: st) σ ↔ (c = 1000 ∧ (1 : Nat) = 1 ∧ vp_in j L) ∧ YL L xs i 382 lv (.int (xs j.toNatClampNeg) :: st) σ := yZ_iff (.iaload, 1, 1, 0, 0, 0, []) rfl (LX_no rfl rfl)
set_option maxRecDepth 100000 in
theorem g150_382 {v0 : Value} {c : Nat} : YL L xs i 382 lv (v0 :: .ref c :: st) σ ↔ (zrcv 7 c ∧ zrm st) ∧ ∃ rv σ', yE 8 113 [.ref c, v0] σ rv σ' ∧ YL L xs i 385 lv (rv.toList ++ st) σ' := yZ_iff (.invokevirtual 50, 3, 113, 1, 288, 0, []) rfl (LX_no rfl rfl)
set_option maxRecDepth 100000 in
theorem g150_385 {x y : Int32} : YL L xs i 385 lv (.int y :: .int x :: st) σ ↔ (x = y → YL L xs i 919 lv st σ) ∧ (¬ x = y → YL L xs i 388 lv st σ) := yZ_iff (.if_icmp .eq 534, 3, 919, 0, 0, 0, []) rfl (LX_no rfl rfl)
set_option maxRecDepth 100000 in
theorem g150_388  : YL L xs i 388 lv st σ ↔ YL L xs i 389 lv (.int 0 :: st) σ := yZ_iff (.iconst 0, 1, 0, 0, 0, 0, []) rfl (LX_no rfl rfl)
set_option maxRecDepth 100000 in
theorem g150_390  : YL L xs i 390 lv st σ ↔ zldR lv 1 (fun x => YL L xs i 391 lv (.ref x :: st) σ) := yZ_iff (.aload_n 1, 1, 0, 0, 0, 0, []) rfl (LX_no rfl rfl)
set_option maxRecDepth 100000 in
theorem g150_391  : YL L xs i 391 lv st σ ↔ zldR lv 0 (fun x => YL L xs i 392 lv (.ref x :: st) σ) := yZ_iff (.aload_n 0, 1, 0, 0, 0, 0, []) rfl (LX_no rfl rfl)
set_option maxRecDepth 100000 in
theorem g150_392  : YL L xs i 392 lv st σ ↔ zldI lv 3 (fun x => YL L xs i 393 lv (.int x :: st) σ) := yZ_iff (.iload_n 3, 1, 0, 0, 0, 0, []) rfl (LX_no rfl rfl)
set_option maxRecDepth 100000 in
theorem g150_393  : YL L xs i 393 lv st σ ↔ YL L xs i 394 lv (.int 1 :: st) σ := yZ_iff (.iconst 1, 1, 0, 0, 0, 0, []) rfl (LX_no rfl rfl)
set_option maxRecDepth 100000 in
theorem g150_394 {x y : Int32} : YL L xs i 394 lv (.int y :: .int x :: st) σ ↔ YL L xs i 395 lv (.int (x + y) :: st) σ := yZ_iff (.iadd, 1, 0, 0, 0, 0, []) rfl (LX_no rfl rfl)
set_option maxRecDepth 100000 in
theorem g150_395 {j : Int32} {c : Nat} : YL L xs i 395 lv (.int j :: .ref c :: st) σ ↔ (c = 1000 ∧ (1 : Nat) = 1 ∧ vp_in j L) ∧ YL L xs i 396 lv (.int (xs j.toNatClampNeg) :: st) σ := yZ_iff (.iaload, 1, 1, 0, 0, 0, []) rfl (LX_no rfl rfl)
set_option maxRecDepth 100000 in
theorem g150_396 {v0 : Value} {c : Nat} : YL L xs i 396 lv (v0 :: .ref c :: st) σ ↔ (zrcv 6 c ∧ zrm st) ∧ ∃ rv σ', yE 8 63 [.ref c, v0] σ rv σ' ∧ YL L xs i 399 lv (rv.toList ++ st) σ' := yZ_iff (.invokevirtual 51, 3, 63, 1, 289, 0, []) rfl (LX_no rfl rfl)
set_option maxRecDepth 100000 in
theorem g150_399  : YL L xs i 399 lv st σ ↔ zldR lv 2 (fun x => YL L xs i 400 lv (.ref x :: st) σ) := yZ_iff (.aload_n 2, 1, 0, 0, 0, 0, []) rfl (LX_no rfl rfl)
set_option maxRecDepth 100000 in
theorem g150_400  : YL L xs i 400 lv st σ ↔ zldR lv 0 (fun x => YL L xs i 401 lv (.ref x :: st) σ) := yZ_iff (.aload_n 0, 1, 0, 0, 0, 0, []) rfl (LX_no rfl rfl)
set_option maxRecDepth 100000 in
theorem g150_401  : YL L xs i 401 lv st σ ↔ zldI lv 3 (fun x => YL L xs i 402 lv (.int x :: st) σ) := yZ_iff (.iload_n 3, 1, 0, 0, 0, 0, []) rfl (LX_no rfl rfl)
set_option maxRecDepth 100000 in
theorem g150_402  : YL L xs i 402 lv st σ ↔ YL L xs i 403 lv (.int 1 :: st) σ := yZ_iff (.iconst 1, 1, 0, 0, 0, 0, []) rfl (LX_no rfl rfl)
set_option maxRecDepth 100000 in
theorem g150_403 {x y : Int32} : YL L xs i 403 lv (.int y :: .int x :: st) σ ↔ YL L xs i 404 lv (.int (x + y) :: st) σ := yZ_iff (.iadd, 1, 0, 0, 0, 0, []) rfl (LX_no rfl rfl)
set_option maxRecDepth 100000 in
theorem g150_404 {j : Int32} {c : Nat} : YL L xs i 404 lv (.int j :: .ref c :: st) σ ↔ (c = 1000 ∧ (1 : Nat) = 1 ∧ vp_in j L) ∧ YL L xs i 405 lv (.int (xs j.toNatClampNeg) :: st) σ := yZ_iff (.iaload, 1, 1, 0, 0, 0, []) rfl (LX_no rfl rfl)
set_option maxRecDepth 100000 in
theorem g150_405 {v0 : Value} {c : Nat} : YL L xs i 405 lv (v0 :: .ref c :: st) σ ↔ (zrcv 7 c ∧ zrm st) ∧ ∃ rv σ', yE 8 114 [.ref c, v0] σ rv σ' ∧ YL L xs i 408 lv (rv.toList ++ st) σ' := yZ_iff (.invokevirtual 54, 3, 114, 1, 290, 0, []) rfl (LX_no rfl rfl)
set_option maxRecDepth 100000 in
theorem g150_408 {x y : Int32} : YL L xs i 408 lv (.int y :: .int x :: st) σ ↔ (x = y → YL L xs i 919 lv st σ) ∧ (¬ x = y → YL L xs i 411 lv st σ) := yZ_iff (.if_icmp .eq 511, 3, 919, 0, 0, 0, []) rfl (LX_no rfl rfl)
set_option maxRecDepth 100000 in
theorem g150_411  : YL L xs i 411 lv st σ ↔ YL L xs i 412 lv (.int 0 :: st) σ := yZ_iff (.iconst 0, 1, 0, 0, 0, 0, []) rfl (LX_no rfl rfl)
set_option maxRecDepth 100000 in
theorem g150_413  : YL L xs i 413 lv st σ ↔ zldR lv 1 (fun x => YL L xs i 414 lv (.ref x :: st) σ) := yZ_iff (.aload_n 1, 1, 0, 0, 0, 0, []) rfl (LX_no rfl rfl)
set_option maxRecDepth 100000 in
theorem g150_414  : YL L xs i 414 lv st σ ↔ zldR lv 0 (fun x => YL L xs i 415 lv (.ref x :: st) σ) := yZ_iff (.aload_n 0, 1, 0, 0, 0, 0, []) rfl (LX_no rfl rfl)
set_option maxRecDepth 100000 in
theorem g150_415  : YL L xs i 415 lv st σ ↔ zldI lv 3 (fun x => YL L xs i 416 lv (.int x :: st) σ) := yZ_iff (.iload_n 3, 1, 0, 0, 0, 0, []) rfl (LX_no rfl rfl)
set_option maxRecDepth 100000 in
theorem g150_416  : YL L xs i 416 lv st σ ↔ YL L xs i 417 lv (.int 1 :: st) σ := yZ_iff (.iconst 1, 1, 0, 0, 0, 0, []) rfl (LX_no rfl rfl)
set_option maxRecDepth 100000 in
theorem g150_417 {x y : Int32} : YL L xs i 417 lv (.int y :: .int x :: st) σ ↔ YL L xs i 418 lv (.int (x + y) :: st) σ := yZ_iff (.iadd, 1, 0, 0, 0, 0, []) rfl (LX_no rfl rfl)
set_option maxRecDepth 100000 in
theorem g150_418 {j : Int32} {c : Nat} : YL L xs i 418 lv (.int j :: .ref c :: st) σ ↔ (c = 1000 ∧ (1 : Nat) = 1 ∧ vp_in j L) ∧ YL L xs i 419 lv (.int (xs j.toNatClampNeg) :: st) σ := yZ_iff (.iaload, 1, 1, 0, 0, 0, []) rfl (LX_no rfl rfl)
set_option maxRecDepth 100000 in
theorem g150_419  : YL L xs i 419 lv st σ ↔ zldR lv 0 (fun x => YL L xs i 420 lv (.ref x :: st) σ) := yZ_iff (.aload_n 0, 1, 0, 0, 0, 0, []) rfl (LX_no rfl rfl)
set_option maxRecDepth 100000 in
theorem g150_420  : YL L xs i 420 lv st σ ↔ zldI lv 3 (fun x => YL L xs i 421 lv (.int x :: st) σ) := yZ_iff (.iload_n 3, 1, 0, 0, 0, 0, []) rfl (LX_no rfl rfl)
set_option maxRecDepth 100000 in
theorem g150_421  : YL L xs i 421 lv st σ ↔ YL L xs i 422 lv (.int 2 :: st) σ := yZ_iff (.iconst 2, 1, 0, 0, 0, 0, []) rfl (LX_no rfl rfl)
set_option maxRecDepth 100000 in
theorem g150_422 {x y : Int32} : YL L xs i 422 lv (.int y :: .int x :: st) σ ↔ YL L xs i 423 lv (.int (x + y) :: st) σ := yZ_iff (.iadd, 1, 0, 0, 0, 0, []) rfl (LX_no rfl rfl)
set_option maxRecDepth 100000 in
theorem g150_423 {j : Int32} {c : Nat} : YL L xs i 423 lv (.int j :: .ref c :: st) σ ↔ (c = 1000 ∧ (1 : Nat) = 1 ∧ vp_in j L) ∧ YL L xs i 424 lv (.int (xs j.toNatClampNeg) :: st) σ := yZ_iff (.iaload, 1, 1, 0, 0, 0, []) rfl (LX_no rfl rfl)
set_option maxRecDepth 100000 in
theorem g150_424 {v0 v1 : Value} {c : Nat} : YL L xs i 424 lv (v1 :: v0 :: .ref c :: st) σ ↔ (zrcv 6 c ∧ zrm st) ∧ ∃ rv σ', yE 8 64 [.ref c, v0, v1] σ rv σ' ∧ YL L xs i 427 lv (rv.toList ++ st) σ' := yZ_iff (.invokevirtual 55, 3, 64, 2, 291, 0, []) rfl (LX_no rfl rfl)
set_option maxRecDepth 100000 in
theorem g150_427  : YL L xs i 427 lv st σ ↔ zldR lv 2 (fun x => YL L xs i 428 lv (.ref x :: st) σ) := yZ_iff (.aload_n 2, 1, 0, 0, 0, 0, []) rfl (LX_no rfl rfl)
set_option maxRecDepth 100000 in
theorem g150_428  : YL L xs i 428 lv st σ ↔ zldR lv 0 (fun x => YL L xs i 429 lv (.ref x :: st) σ) := yZ_iff (.aload_n 0, 1, 0, 0, 0, 0, []) rfl (LX_no rfl rfl)
set_option maxRecDepth 100000 in
theorem g150_429  : YL L xs i 429 lv st σ ↔ zldI lv 3 (fun x => YL L xs i 430 lv (.int x :: st) σ) := yZ_iff (.iload_n 3, 1, 0, 0, 0, 0, []) rfl (LX_no rfl rfl)
set_option maxRecDepth 100000 in
theorem g150_430  : YL L xs i 430 lv st σ ↔ YL L xs i 431 lv (.int 1 :: st) σ := yZ_iff (.iconst 1, 1, 0, 0, 0, 0, []) rfl (LX_no rfl rfl)
set_option maxRecDepth 100000 in
theorem g150_431 {x y : Int32} : YL L xs i 431 lv (.int y :: .int x :: st) σ ↔ YL L xs i 432 lv (.int (x + y) :: st) σ := yZ_iff (.iadd, 1, 0, 0, 0, 0, []) rfl (LX_no rfl rfl)
set_option maxRecDepth 100000 in
theorem g150_432 {j : Int32} {c : Nat} : YL L xs i 432 lv (.int j :: .ref c :: st) σ ↔ (c = 1000 ∧ (1 : Nat) = 1 ∧ vp_in j L) ∧ YL L xs i 433 lv (.int (xs j.toNatClampNeg) :: st) σ := yZ_iff (.iaload, 1, 1, 0, 0, 0, []) rfl (LX_no rfl rfl)
set_option maxRecDepth 100000 in
theorem g150_433  : YL L xs i 433 lv st σ ↔ zldR lv 0 (fun x => YL L xs i 434 lv (.ref x :: st) σ) := yZ_iff (.aload_n 0, 1, 0, 0, 0, 0, []) rfl (LX_no rfl rfl)
set_option maxRecDepth 100000 in
theorem g150_434  : YL L xs i 434 lv st σ ↔ zldI lv 3 (fun x => YL L xs i 435 lv (.int x :: st) σ) := yZ_iff (.iload_n 3, 1, 0, 0, 0, 0, []) rfl (LX_no rfl rfl)
set_option maxRecDepth 100000 in
theorem g150_435  : YL L xs i 435 lv st σ ↔ YL L xs i 436 lv (.int 2 :: st) σ := yZ_iff (.iconst 2, 1, 0, 0, 0, 0, []) rfl (LX_no rfl rfl)
set_option maxRecDepth 100000 in
theorem g150_436 {x y : Int32} : YL L xs i 436 lv (.int y :: .int x :: st) σ ↔ YL L xs i 437 lv (.int (x + y) :: st) σ := yZ_iff (.iadd, 1, 0, 0, 0, 0, []) rfl (LX_no rfl rfl)
set_option maxRecDepth 100000 in
theorem g150_437 {j : Int32} {c : Nat} : YL L xs i 437 lv (.int j :: .ref c :: st) σ ↔ (c = 1000 ∧ (1 : Nat) = 1 ∧ vp_in j L) ∧ YL L xs i 438 lv (.int (xs j.toNatClampNeg) :: st) σ := yZ_iff (.iaload, 1, 1, 0, 0, 0, []) rfl (LX_no rfl rfl)
set_option maxRecDepth 100000 in
theorem g150_438 {v0 v1 : Value} {c : Nat} : YL L xs i 438 lv (v1 :: v0 :: .ref c :: st) σ ↔ (zrcv 7 c ∧ zrm st) ∧ ∃ rv σ', yE 8 115 [.ref c, v0, v1] σ rv σ' ∧ YL L xs i 441 lv (rv.toList ++ st) σ' := yZ_iff (.invokevirtual 58, 3, 115, 2, 292, 0, []) rfl (LX_no rfl rfl)
set_option maxRecDepth 100000 in
theorem g150_441 {x y : Int32} : YL L xs i 441 lv (.int y :: .int x :: st) σ ↔ (x = y → YL L xs i 919 lv st σ) ∧ (¬ x = y → YL L xs i 444 lv st σ) := yZ_iff (.if_icmp .eq 478, 3, 919, 0, 0, 0, []) rfl (LX_no rfl rfl)
set_option maxRecDepth 100000 in
theorem g150_444  : YL L xs i 444 lv st σ ↔ YL L xs i 445 lv (.int 0 :: st) σ := yZ_iff (.iconst 0, 1, 0, 0, 0, 0, []) rfl (LX_no rfl rfl)
set_option maxRecDepth 100000 in
theorem g150_446  : YL L xs i 446 lv st σ ↔ zldR lv 1 (fun x => YL L xs i 447 lv (.ref x :: st) σ) := yZ_iff (.aload_n 1, 1, 0, 0, 0, 0, []) rfl (LX_no rfl rfl)
set_option maxRecDepth 100000 in
theorem g150_447 {c : Nat} : YL L xs i 447 lv (.ref c :: st) σ ↔ (zrcv 6 c ∧ zrm st) ∧ ∃ rv σ', yE 8 65 [.ref c] σ rv σ' ∧ YL L xs i 450 lv (rv.toList ++ st) σ' := yZ_iff (.invokevirtual 59, 3, 65, 0, 293, 0, []) rfl (LX_no rfl rfl)
set_option maxRecDepth 100000 in
theorem g150_450  : YL L xs i 450 lv st σ ↔ zldR lv 2 (fun x => YL L xs i 451 lv (.ref x :: st) σ) := yZ_iff (.aload_n 2, 1, 0, 0, 0, 0, []) rfl (LX_no rfl rfl)
set_option maxRecDepth 100000 in
theorem g150_451 {c : Nat} : YL L xs i 451 lv (.ref c :: st) σ ↔ (zrcv 7 c ∧ zrm st) ∧ ∃ rv σ', yE 8 116 [.ref c] σ rv σ' ∧ YL L xs i 454 lv (rv.toList ++ st) σ' := yZ_iff (.invokevirtual 62, 3, 116, 0, 294, 0, []) rfl (LX_no rfl rfl)
set_option maxRecDepth 100000 in
theorem g150_454 {x y : Int32} : YL L xs i 454 lv (.int y :: .int x :: st) σ ↔ (x = y → YL L xs i 919 lv st σ) ∧ (¬ x = y → YL L xs i 457 lv st σ) := yZ_iff (.if_icmp .eq 465, 3, 919, 0, 0, 0, []) rfl (LX_no rfl rfl)
set_option maxRecDepth 100000 in
theorem g150_457  : YL L xs i 457 lv st σ ↔ YL L xs i 458 lv (.int 0 :: st) σ := yZ_iff (.iconst 0, 1, 0, 0, 0, 0, []) rfl (LX_no rfl rfl)
set_option maxRecDepth 100000 in
theorem g150_459  : YL L xs i 459 lv st σ ↔ zldR lv 1 (fun x => YL L xs i 460 lv (.ref x :: st) σ) := yZ_iff (.aload_n 1, 1, 0, 0, 0, 0, []) rfl (LX_no rfl rfl)
set_option maxRecDepth 100000 in
theorem g150_460 {c : Nat} : YL L xs i 460 lv (.ref c :: st) σ ↔ (zrcv 6 c ∧ zrm st) ∧ ∃ rv σ', yE 8 66 [.ref c] σ rv σ' ∧ YL L xs i 463 lv (rv.toList ++ st) σ' := yZ_iff (.invokevirtual 63, 3, 66, 0, 295, 0, []) rfl (LX_no rfl rfl)
set_option maxRecDepth 100000 in
theorem g150_463  : YL L xs i 463 lv st σ ↔ zldR lv 2 (fun x => YL L xs i 464 lv (.ref x :: st) σ) := yZ_iff (.aload_n 2, 1, 0, 0, 0, 0, []) rfl (LX_no rfl rfl)
set_option maxRecDepth 100000 in
theorem g150_464 {c : Nat} : YL L xs i 464 lv (.ref c :: st) σ ↔ (zrcv 7 c ∧ zrm st) ∧ ∃ rv σ', yE 8 119 [.ref c] σ rv σ' ∧ YL L xs i 467 lv (rv.toList ++ st) σ' := yZ_iff (.invokevirtual 66, 3, 119, 0, 296, 0, []) rfl (LX_no rfl rfl)
set_option maxRecDepth 100000 in
theorem g150_467 {x y : Int32} : YL L xs i 467 lv (.int y :: .int x :: st) σ ↔ (x = y → YL L xs i 919 lv st σ) ∧ (¬ x = y → YL L xs i 470 lv st σ) := yZ_iff (.if_icmp .eq 452, 3, 919, 0, 0, 0, []) rfl (LX_no rfl rfl)
set_option maxRecDepth 100000 in
theorem g150_470  : YL L xs i 470 lv st σ ↔ YL L xs i 471 lv (.int 0 :: st) σ := yZ_iff (.iconst 0, 1, 0, 0, 0, 0, []) rfl (LX_no rfl rfl)
set_option maxRecDepth 100000 in
theorem g150_472  : YL L xs i 472 lv st σ ↔ zldR lv 1 (fun x => YL L xs i 473 lv (.ref x :: st) σ) := yZ_iff (.aload_n 1, 1, 0, 0, 0, 0, []) rfl (LX_no rfl rfl)
set_option maxRecDepth 100000 in
theorem g150_473  : YL L xs i 473 lv st σ ↔ zldR lv 0 (fun x => YL L xs i 474 lv (.ref x :: st) σ) := yZ_iff (.aload_n 0, 1, 0, 0, 0, 0, []) rfl (LX_no rfl rfl)
set_option maxRecDepth 100000 in
theorem g150_474  : YL L xs i 474 lv st σ ↔ zldI lv 3 (fun x => YL L xs i 475 lv (.int x :: st) σ) := yZ_iff (.iload_n 3, 1, 0, 0, 0, 0, []) rfl (LX_no rfl rfl)
set_option maxRecDepth 100000 in
theorem g150_475  : YL L xs i 475 lv st σ ↔ YL L xs i 476 lv (.int 1 :: st) σ := yZ_iff (.iconst 1, 1, 0, 0, 0, 0, []) rfl (LX_no rfl rfl)
set_option maxRecDepth 100000 in
theorem g150_476 {x y : Int32} : YL L xs i 476 lv (.int y :: .int x :: st) σ ↔ YL L xs i 477 lv (.int (x + y) :: st) σ := yZ_iff (.iadd, 1, 0, 0, 0, 0, []) rfl (LX_no rfl rfl)
set_option maxRecDepth 100000 in
theorem g150_477 {j : Int32} {c : Nat} : YL L xs i 477 lv (.int j :: .ref c :: st) σ ↔ (c = 1000 ∧ (1 : Nat) = 1 ∧ vp_in j L) ∧ YL L xs i 478 lv (.int (xs j.toNatClampNeg) :: st) σ := yZ_iff (.iaload, 1, 1, 0, 0, 0, []) rfl (LX_no rfl rfl)
set_option maxRecDepth 100000 in
theorem g150_478 {v0 : Value} {c : Nat} : YL L xs i 478 lv (v0 :: .ref c :: st) σ ↔ (zrcv 6 c ∧ zrm st) ∧ ∃ rv σ', yE 8 67 [.ref c, v0] σ rv σ' ∧ YL L xs i 481 lv (rv.toList ++ st) σ' := yZ_iff (.invokevirtual 67, 3, 67, 1, 297, 0, []) rfl (LX_no rfl rfl)
set_option maxRecDepth 100000 in
theorem g150_481  : YL L xs i 481 lv st σ ↔ zldR lv 2 (fun x => YL L xs i 482 lv (.ref x :: st) σ) := yZ_iff (.aload_n 2, 1, 0, 0, 0, 0, []) rfl (LX_no rfl rfl)
set_option maxRecDepth 100000 in
theorem g150_482  : YL L xs i 482 lv st σ ↔ zldR lv 0 (fun x => YL L xs i 483 lv (.ref x :: st) σ) := yZ_iff (.aload_n 0, 1, 0, 0, 0, 0, []) rfl (LX_no rfl rfl)
set_option maxRecDepth 100000 in
theorem g150_483  : YL L xs i 483 lv st σ ↔ zldI lv 3 (fun x => YL L xs i 484 lv (.int x :: st) σ) := yZ_iff (.iload_n 3, 1, 0, 0, 0, 0, []) rfl (LX_no rfl rfl)
set_option maxRecDepth 100000 in
theorem g150_484  : YL L xs i 484 lv st σ ↔ YL L xs i 485 lv (.int 1 :: st) σ := yZ_iff (.iconst 1, 1, 0, 0, 0, 0, []) rfl (LX_no rfl rfl)
set_option maxRecDepth 100000 in
theorem g150_485 {x y : Int32} : YL L xs i 485 lv (.int y :: .int x :: st) σ ↔ YL L xs i 486 lv (.int (x + y) :: st) σ := yZ_iff (.iadd, 1, 0, 0, 0, 0, []) rfl (LX_no rfl rfl)
set_option maxRecDepth 100000 in
theorem g150_486 {j : Int32} {c : Nat} : YL L xs i 486 lv (.int j :: .ref c :: st) σ ↔ (c = 1000 ∧ (1 : Nat) = 1 ∧ vp_in j L) ∧ YL L xs i 487 lv (.int (xs j.toNatClampNeg) :: st) σ := yZ_iff (.iaload, 1, 1, 0, 0, 0, []) rfl (LX_no rfl rfl)
set_option maxRecDepth 100000 in
theorem g150_487 {v0 : Value} {c : Nat} : YL L xs i 487 lv (v0 :: .ref c :: st) σ ↔ (zrcv 7 c ∧ zrm st) ∧ ∃ rv σ', yE 8 121 [.ref c, v0] σ rv σ' ∧ YL L xs i 490 lv (rv.toList ++ st) σ' := yZ_iff (.invokevirtual 70, 3, 121, 1, 298, 0, []) rfl (LX_no rfl rfl)
set_option maxRecDepth 100000 in
theorem g150_490 {x y : Int32} : YL L xs i 490 lv (.int y :: .int x :: st) σ ↔ (x = y → YL L xs i 919 lv st σ) ∧ (¬ x = y → YL L xs i 493 lv st σ) := yZ_iff (.if_icmp .eq 429, 3, 919, 0, 0, 0, []) rfl (LX_no rfl rfl)
set_option maxRecDepth 100000 in
theorem g150_493  : YL L xs i 493 lv st σ ↔ YL L xs i 494 lv (.int 0 :: st) σ := yZ_iff (.iconst 0, 1, 0, 0, 0, 0, []) rfl (LX_no rfl rfl)
set_option maxRecDepth 100000 in
theorem g150_495  : YL L xs i 495 lv st σ ↔ zldR lv 1 (fun x => YL L xs i 496 lv (.ref x :: st) σ) := yZ_iff (.aload_n 1, 1, 0, 0, 0, 0, []) rfl (LX_no rfl rfl)
set_option maxRecDepth 100000 in
theorem g150_496  : YL L xs i 496 lv st σ ↔ zldR lv 0 (fun x => YL L xs i 497 lv (.ref x :: st) σ) := yZ_iff (.aload_n 0, 1, 0, 0, 0, 0, []) rfl (LX_no rfl rfl)
set_option maxRecDepth 100000 in
theorem g150_497  : YL L xs i 497 lv st σ ↔ zldI lv 3 (fun x => YL L xs i 498 lv (.int x :: st) σ) := yZ_iff (.iload_n 3, 1, 0, 0, 0, 0, []) rfl (LX_no rfl rfl)
set_option maxRecDepth 100000 in
theorem g150_498  : YL L xs i 498 lv st σ ↔ YL L xs i 499 lv (.int 1 :: st) σ := yZ_iff (.iconst 1, 1, 0, 0, 0, 0, []) rfl (LX_no rfl rfl)
set_option maxRecDepth 100000 in
theorem g150_499 {x y : Int32} : YL L xs i 499 lv (.int y :: .int x :: st) σ ↔ YL L xs i 500 lv (.int (x + y) :: st) σ := yZ_iff (.iadd, 1, 0, 0, 0, 0, []) rfl (LX_no rfl rfl)
set_option maxRecDepth 100000 in
theorem g150_500 {j : Int32} {c : Nat} : YL L xs i 500 lv (.int j :: .ref c :: st) σ ↔ (c = 1000 ∧ (1 : Nat) = 1 ∧ vp_in j L) ∧ YL L xs i 501 lv (.int (xs j.toNatClampNeg) :: st) σ := yZ_iff (.iaload, 1, 1, 0, 0, 0, []) rfl (LX_no rfl rfl)
set_option maxRecDepth 100000 in
theorem g150_501  : YL L xs i 501 lv st σ ↔ zldR lv 0 (fun x => YL L xs i 502 lv (.ref x :: st) σ) := yZ_iff (.aload_n 0, 1, 0, 0, 0, 0, []) rfl (LX_no rfl rfl)
set_option maxRecDepth 100000 in
theorem g150_502  : YL L xs i 502 lv st σ ↔ zldI lv 3 (fun x => YL L xs i 503 lv (.int x :: st) σ) := yZ_iff (.iload_n 3, 1, 0, 0, 0, 0, []) rfl (LX_no rfl rfl)
set_option maxRecDepth 100000 in
theorem g150_503  : YL L xs i 503 lv st σ ↔ YL L xs i 504 lv (.int 2 :: st) σ := yZ_iff (.iconst 2, 1, 0, 0, 0, 0, []) rfl (LX_no rfl rfl)
set_option maxRecDepth 100000 in
theorem g150_504 {x y : Int32} : YL L xs i 504 lv (.int y :: .int x :: st) σ ↔ YL L xs i 505 lv (.int (x + y) :: st) σ := yZ_iff (.iadd, 1, 0, 0, 0, 0, []) rfl (LX_no rfl rfl)
set_option maxRecDepth 100000 in
theorem g150_505 {j : Int32} {c : Nat} : YL L xs i 505 lv (.int j :: .ref c :: st) σ ↔ (c = 1000 ∧ (1 : Nat) = 1 ∧ vp_in j L) ∧ YL L xs i 506 lv (.int (xs j.toNatClampNeg) :: st) σ := yZ_iff (.iaload, 1, 1, 0, 0, 0, []) rfl (LX_no rfl rfl)
set_option maxRecDepth 100000 in
theorem g150_506 {v0 v1 : Value} {c : Nat} : YL L xs i 506 lv (v1 :: v0 :: .ref c :: st) σ ↔ (zrcv 6 c ∧ zrm st) ∧ ∃ rv σ', yE 8 68 [.ref c, v0, v1] σ rv σ' ∧ YL L xs i 509 lv (rv.toList ++ st) σ' := yZ_iff (.invokevirtual 71, 3, 68, 2, 299, 0, []) rfl (LX_no rfl rfl)
set_option maxRecDepth 100000 in
theorem g150_509  : YL L xs i 509 lv st σ ↔ zldR lv 2 (fun x => YL L xs i 510 lv (.ref x :: st) σ) := yZ_iff (.aload_n 2, 1, 0, 0, 0, 0, []) rfl (LX_no rfl rfl)
set_option maxRecDepth 100000 in
theorem g150_510  : YL L xs i 510 lv st σ ↔ zldR lv 0 (fun x => YL L xs i 511 lv (.ref x :: st) σ) := yZ_iff (.aload_n 0, 1, 0, 0, 0, 0, []) rfl (LX_no rfl rfl)
set_option maxRecDepth 100000 in
theorem g150_511  : YL L xs i 511 lv st σ ↔ zldI lv 3 (fun x => YL L xs i 512 lv (.int x :: st) σ) := yZ_iff (.iload_n 3, 1, 0, 0, 0, 0, []) rfl (LX_no rfl rfl)
set_option maxRecDepth 100000 in
theorem g150_512  : YL L xs i 512 lv st σ ↔ YL L xs i 513 lv (.int 1 :: st) σ := yZ_iff (.iconst 1, 1, 0, 0, 0, 0, []) rfl (LX_no rfl rfl)
set_option maxRecDepth 100000 in
theorem g150_513 {x y : Int32} : YL L xs i 513 lv (.int y :: .int x :: st) σ ↔ YL L xs i 514 lv (.int (x + y) :: st) σ := yZ_iff (.iadd, 1, 0, 0, 0, 0, []) rfl (LX_no rfl rfl)
set_option maxRecDepth 100000 in
theorem g150_514 {j : Int32} {c : Nat} : YL L xs i 514 lv (.int j :: .ref c :: st) σ ↔ (c = 1000 ∧ (1 : Nat) = 1 ∧ vp_in j L) ∧ YL L xs i 515 lv (.int (xs j.toNatClampNeg) :: st) σ := yZ_iff (.iaload, 1, 1, 0, 0, 0, []) rfl (LX_no rfl rfl)
set_option maxRecDepth 100000 in
theorem g150_515  : YL L xs i 515 lv st σ ↔ zldR lv 0 (fun x => YL L xs i 516 lv (.ref x :: st) σ) := yZ_iff (.aload_n 0, 1, 0, 0, 0, 0, []) rfl (LX_no rfl rfl)
set_option maxRecDepth 100000 in
theorem g150_516  : YL L xs i 516 lv st σ ↔ zldI lv 3 (fun x => YL L xs i 517 lv (.int x :: st) σ) := yZ_iff (.iload_n 3, 1, 0, 0, 0, 0, []) rfl (LX_no rfl rfl)
set_option maxRecDepth 100000 in
theorem g150_517  : YL L xs i 517 lv st σ ↔ YL L xs i 518 lv (.int 2 :: st) σ := yZ_iff (.iconst 2, 1, 0, 0, 0, 0, []) rfl (LX_no rfl rfl)
set_option maxRecDepth 100000 in
theorem g150_518 {x y : Int32} : YL L xs i 518 lv (.int y :: .int x :: st) σ ↔ YL L xs i 519 lv (.int (x + y) :: st) σ := yZ_iff (.iadd, 1, 0, 0, 0, 0, []) rfl (LX_no rfl rfl)
set_option maxRecDepth 100000 in
theorem g150_519 {j : Int32} {c : Nat} : YL L xs i 519 lv (.int j :: .ref c :: st) σ ↔ (c = 1000 ∧ (1 : Nat) = 1 ∧ vp_in j L) ∧ YL L xs i 520 lv (.int (xs j.toNatClampNeg) :: st) σ := yZ_iff (.iaload, 1, 1, 0, 0, 0, []) rfl (LX_no rfl rfl)
set_option maxRecDepth 100000 in
theorem g150_520 {v0 v1 : Value} {c : Nat} : YL L xs i 520 lv (v1 :: v0 :: .ref c :: st) σ ↔ (zrcv 7 c ∧ zrm st) ∧ ∃ rv σ', yE 8 125 [.ref c, v0, v1] σ rv σ' ∧ YL L xs i 523 lv (rv.toList ++ st) σ' := yZ_iff (.invokevirtual 74, 3, 125, 2, 300, 0, []) rfl (LX_no rfl rfl)
set_option maxRecDepth 100000 in
theorem g150_523 {x y : Int32} : YL L xs i 523 lv (.int y :: .int x :: st) σ ↔ (x = y → YL L xs i 919 lv st σ) ∧ (¬ x = y → YL L xs i 526 lv st σ) := yZ_iff (.if_icmp .eq 396, 3, 919, 0, 0, 0, []) rfl (LX_no rfl rfl)
set_option maxRecDepth 100000 in
theorem g150_526  : YL L xs i 526 lv st σ ↔ YL L xs i 527 lv (.int 0 :: st) σ := yZ_iff (.iconst 0, 1, 0, 0, 0, 0, []) rfl (LX_no rfl rfl)
set_option maxRecDepth 100000 in
theorem g150_528  : YL L xs i 528 lv st σ ↔ zldR lv 1 (fun x => YL L xs i 529 lv (.ref x :: st) σ) := yZ_iff (.aload_n 1, 1, 0, 0, 0, 0, []) rfl (LX_no rfl rfl)
set_option maxRecDepth 100000 in
theorem g150_529  : YL L xs i 529 lv st σ ↔ zldR lv 0 (fun x => YL L xs i 530 lv (.ref x :: st) σ) := yZ_iff (.aload_n 0, 1, 0, 0, 0, 0, []) rfl (LX_no rfl rfl)
set_option maxRecDepth 100000 in
theorem g150_530  : YL L xs i 530 lv st σ ↔ zldI lv 3 (fun x => YL L xs i 531 lv (.int x :: st) σ) := yZ_iff (.iload_n 3, 1, 0, 0, 0, 0, []) rfl (LX_no rfl rfl)
set_option maxRecDepth 100000 in
theorem g150_531  : YL L xs i 531 lv st σ ↔ YL L xs i 532 lv (.int 1 :: st) σ := yZ_iff (.iconst 1, 1, 0, 0, 0, 0, []) rfl (LX_no rfl rfl)
set_option maxRecDepth 100000 in
theorem g150_532 {x y : Int32} : YL L xs i 532 lv (.int y :: .int x :: st) σ ↔ YL L xs i 533 lv (.int (x + y) :: st) σ := yZ_iff (.iadd, 1, 0, 0, 0, 0, []) rfl (LX_no rfl rfl)
set_option maxRecDepth 100000 in
theorem g150_533 {j : Int32} {c : Nat} : YL L xs i 533 lv (.int j :: .ref c :: st) σ ↔ (c = 1000 ∧ (1 : Nat) = 1 ∧ vp_in j L) ∧ YL L xs i 534 lv (.int (xs j.toNatClampNeg) :: st) σ := yZ_iff (.iaload, 1, 1, 0, 0, 0, []) rfl (LX_no rfl rfl)
set_option maxRecDepth 100000 in
theorem g150_534  : YL L xs i 534 lv st σ ↔ zldR lv 0 (fun x => YL L xs i 535 lv (.ref x :: st) σ) := yZ_iff (.aload_n 0, 1, 0, 0, 0, 0, []) rfl (LX_no rfl rfl)
set_option maxRecDepth 100000 in
theorem g150_535  : YL L xs i 535 lv st σ ↔ zldI lv 3 (fun x => YL L xs i 536 lv (.int x :: st) σ) := yZ_iff (.iload_n 3, 1, 0, 0, 0, 0, []) rfl (LX_no rfl rfl)
set_option maxRecDepth 100000 in
theorem g150_536  : YL L xs i 536 lv st σ ↔ YL L xs i 537 lv (.int 2 :: st) σ := yZ_iff (.iconst 2, 1, 0, 0, 0, 0, []) rfl (LX_no rfl rfl)
set_option maxRecDepth 100000 in
theorem g150_537 {x y : Int32} : YL L xs i 537 lv (.int y :: .int x :: st) σ ↔ YL L xs i 538 lv (.int (x + y) :: st) σ := yZ_iff (.iadd, 1, 0, 0, 0, 0, []) rfl (LX_no rfl rfl)
set_option maxRecDepth 100000 in
theorem g150_538 {j : Int32} {c : Nat} : YL L xs i 538 lv (.int j :: .ref c :: st) σ ↔ (c = 1000 ∧ (1 : Nat) = 1 ∧ vp_in j L) ∧ YL L xs i 539 lv (.int (xs j.toNatClampNeg) :: st) σ := yZ_iff (.iaload, 1, 1, 0, 0, 0, []) rfl (LX_no rfl rfl)
set_option maxRecDepth 100000 in
theorem g150_539 {v0 v1 : Value} {c : Nat} : YL L xs i 539 lv (v1 :: v0 :: .ref c :: st) σ ↔ (zrcv 6 c ∧ zrm st) ∧ ∃ rv σ', yE 8 69 [.ref c, v0, v1] σ rv σ' ∧ YL L xs i 542 lv (rv.toList ++ st) σ' := yZ_iff (.invokevirtual 75, 3, 69, 2, 301, 0, []) rfl (LX_no rfl rfl)
set_option maxRecDepth 100000 in
theorem g150_542  : YL L xs i 542 lv st σ ↔ zldR lv 2 (fun x => YL L xs i 543 lv (.ref x :: st) σ) := yZ_iff (.aload_n 2, 1, 0, 0, 0, 0, []) rfl (LX_no rfl rfl)
set_option maxRecDepth 100000 in
theorem g150_543  : YL L xs i 543 lv st σ ↔ zldR lv 0 (fun x => YL L xs i 544 lv (.ref x :: st) σ) := yZ_iff (.aload_n 0, 1, 0, 0, 0, 0, []) rfl (LX_no rfl rfl)
set_option maxRecDepth 100000 in
theorem g150_544  : YL L xs i 544 lv st σ ↔ zldI lv 3 (fun x => YL L xs i 545 lv (.int x :: st) σ) := yZ_iff (.iload_n 3, 1, 0, 0, 0, 0, []) rfl (LX_no rfl rfl)
set_option maxRecDepth 100000 in
theorem g150_545  : YL L xs i 545 lv st σ ↔ YL L xs i 546 lv (.int 1 :: st) σ := yZ_iff (.iconst 1, 1, 0, 0, 0, 0, []) rfl (LX_no rfl rfl)
set_option maxRecDepth 100000 in
theorem g150_546 {x y : Int32} : YL L xs i 546 lv (.int y :: .int x :: st) σ ↔ YL L xs i 547 lv (.int (x + y) :: st) σ := yZ_iff (.iadd, 1, 0, 0, 0, 0, []) rfl (LX_no rfl rfl)
set_option maxRecDepth 100000 in
theorem g150_547 {j : Int32} {c : Nat} : YL L xs i 547 lv (.int j :: .ref c :: st) σ ↔ (c = 1000 ∧ (1 : Nat) = 1 ∧ vp_in j L) ∧ YL L xs i 548 lv (.int (xs j.toNatClampNeg) :: st) σ := yZ_iff (.iaload, 1, 1, 0, 0, 0, []) rfl (LX_no rfl rfl)
set_option maxRecDepth 100000 in
theorem g150_548  : YL L xs i 548 lv st σ ↔ zldR lv 0 (fun x => YL L xs i 549 lv (.ref x :: st) σ) := yZ_iff (.aload_n 0, 1, 0, 0, 0, 0, []) rfl (LX_no rfl rfl)
set_option maxRecDepth 100000 in
theorem g150_549  : YL L xs i 549 lv st σ ↔ zldI lv 3 (fun x => YL L xs i 550 lv (.int x :: st) σ) := yZ_iff (.iload_n 3, 1, 0, 0, 0, 0, []) rfl (LX_no rfl rfl)
set_option maxRecDepth 100000 in
theorem g150_550  : YL L xs i 550 lv st σ ↔ YL L xs i 551 lv (.int 2 :: st) σ := yZ_iff (.iconst 2, 1, 0, 0, 0, 0, []) rfl (LX_no rfl rfl)
set_option maxRecDepth 100000 in
theorem g150_551 {x y : Int32} : YL L xs i 551 lv (.int y :: .int x :: st) σ ↔ YL L xs i 552 lv (.int (x + y) :: st) σ := yZ_iff (.iadd, 1, 0, 0, 0, 0, []) rfl (LX_no rfl rfl)
set_option maxRecDepth 100000 in
theorem g150_552 {j : Int32} {c : Nat} : YL L xs i 552 lv (.int j :: .ref c :: st) σ ↔ (c = 1000 ∧ (1 : Nat) = 1 ∧ vp_in j L) ∧ YL L xs i 553 lv (.int (xs j.toNatClampNeg) :: st) σ := yZ_iff (.iaload, 1, 1, 0, 0, 0, []) rfl (LX_no rfl rfl)
set_option maxRecDepth 100000 in
theorem g150_553 {v0 v1 : Value} {c : Nat} : YL L xs i 553 lv (v1 :: v0 :: .ref c :: st) σ ↔ (zrcv 7 c ∧ zrm st) ∧ ∃ rv σ', yE 8 126 [.ref c, v0, v1] σ rv σ' ∧ YL L xs i 556 lv (rv.toList ++ st) σ' := yZ_iff (.invokevirtual 78, 3, 126, 2, 302, 0, []) rfl (LX_no rfl rfl)
set_option maxRecDepth 100000 in
theorem g150_556 {x y : Int32} : YL L xs i 556 lv (.int y :: .int x :: st) σ ↔ (x = y → YL L xs i 919 lv st σ) ∧ (¬ x = y → YL L xs i 559 lv st σ) := yZ_iff (.if_icmp .eq 363, 3, 919, 0, 0, 0, []) rfl (LX_no rfl rfl)
set_option maxRecDepth 100000 in
theorem g150_559  : YL L xs i 559 lv st σ ↔ YL L xs i 560 lv (.int 0 :: st) σ := yZ_iff (.iconst 0, 1, 0, 0, 0, 0, []) rfl (LX_no rfl rfl)
set_option maxRecDepth 100000 in
theorem g150_561  : YL L xs i 561 lv st σ ↔ zldR lv 1 (fun x => YL L xs i 562 lv (.ref x :: st) σ) := yZ_iff (.aload_n 1, 1, 0, 0, 0, 0, []) rfl (LX_no rfl rfl)
set_option maxRecDepth 100000 in
theorem g150_562  : YL L xs i 562 lv st σ ↔ zldR lv 0 (fun x => YL L xs i 563 lv (.ref x :: st) σ) := yZ_iff (.aload_n 0, 1, 0, 0, 0, 0, []) rfl (LX_no rfl rfl)
set_option maxRecDepth 100000 in
theorem g150_563  : YL L xs i 563 lv st σ ↔ zldI lv 3 (fun x => YL L xs i 564 lv (.int x :: st) σ) := yZ_iff (.iload_n 3, 1, 0, 0, 0, 0, []) rfl (LX_no rfl rfl)
set_option maxRecDepth 100000 in
theorem g150_564  : YL L xs i 564 lv st σ ↔ YL L xs i 565 lv (.int 1 :: st) σ := yZ_iff (.iconst 1, 1, 0, 0, 0, 0, []) rfl (LX_no rfl rfl)
set_option maxRecDepth 100000 in
theorem g150_565 {x y : Int32} : YL L xs i 565 lv (.int y :: .int x :: st) σ ↔ YL L xs i 566 lv (.int (x + y) :: st) σ := yZ_iff (.iadd, 1, 0, 0, 0, 0, []) rfl (LX_no rfl rfl)
set_option maxRecDepth 100000 in
theorem g150_566 {j : Int32} {c : Nat} : YL L xs i 566 lv (.int j :: .ref c :: st) σ ↔ (c = 1000 ∧ (1 : Nat) = 1 ∧ vp_in j L) ∧ YL L xs i 567 lv (.int (xs j.toNatClampNeg) :: st) σ := yZ_iff (.iaload, 1, 1, 0, 0, 0, []) rfl (LX_no rfl rfl)
set_option maxRecDepth 100000 in
theorem g150_567  : YL L xs i 567 lv st σ ↔ zldR lv 0 (fun x => YL L xs i 568 lv (.ref x :: st) σ) := yZ_iff (.aload_n 0, 1, 0, 0, 0, 0, []) rfl (LX_no rfl rfl)
set_option maxRecDepth 100000 in
theorem g150_568  : YL L xs i 568 lv st σ ↔ zldI lv 3 (fun x => YL L xs i 569 lv (.int x :: st) σ) := yZ_iff (.iload_n 3, 1, 0, 0, 0, 0, []) rfl (LX_no rfl rfl)
set_option maxRecDepth 100000 in
theorem g150_569  : YL L xs i 569 lv st σ ↔ YL L xs i 570 lv (.int 2 :: st) σ := yZ_iff (.iconst 2, 1, 0, 0, 0, 0, []) rfl (LX_no rfl rfl)
set_option maxRecDepth 100000 in
theorem g150_570 {x y : Int32} : YL L xs i 570 lv (.int y :: .int x :: st) σ ↔ YL L xs i 571 lv (.int (x + y) :: st) σ := yZ_iff (.iadd, 1, 0, 0, 0, 0, []) rfl (LX_no rfl rfl)
set_option maxRecDepth 100000 in
theorem g150_571 {j : Int32} {c : Nat} : YL L xs i 571 lv (.int j :: .ref c :: st) σ ↔ (c = 1000 ∧ (1 : Nat) = 1 ∧ vp_in j L) ∧ YL L xs i 572 lv (.int (xs j.toNatClampNeg) :: st) σ := yZ_iff (.iaload, 1, 1, 0, 0, 0, []) rfl (LX_no rfl rfl)
set_option maxRecDepth 100000 in
theorem g150_572  : YL L xs i 572 lv st σ ↔ zldR lv 0 (fun x => YL L xs i 573 lv (.ref x :: st) σ) := yZ_iff (.aload_n 0, 1, 0, 0, 0, 0, []) rfl (LX_no rfl rfl)
set_option maxRecDepth 100000 in
theorem g150_573  : YL L xs i 573 lv st σ ↔ zldI lv 3 (fun x => YL L xs i 574 lv (.int x :: st) σ) := yZ_iff (.iload_n 3, 1, 0, 0, 0, 0, []) rfl (LX_no rfl rfl)
set_option maxRecDepth 100000 in
theorem g150_574  : YL L xs i 574 lv st σ ↔ YL L xs i 575 lv (.int 3 :: st) σ := yZ_iff (.iconst 3, 1, 0, 0, 0, 0, []) rfl (LX_no rfl rfl)
set_option maxRecDepth 100000 in
theorem g150_575 {x y : Int32} : YL L xs i 575 lv (.int y :: .int x :: st) σ ↔ YL L xs i 576 lv (.int (x + y) :: st) σ := yZ_iff (.iadd, 1, 0, 0, 0, 0, []) rfl (LX_no rfl rfl)
set_option maxRecDepth 100000 in
theorem g150_576 {j : Int32} {c : Nat} : YL L xs i 576 lv (.int j :: .ref c :: st) σ ↔ (c = 1000 ∧ (1 : Nat) = 1 ∧ vp_in j L) ∧ YL L xs i 577 lv (.int (xs j.toNatClampNeg) :: st) σ := yZ_iff (.iaload, 1, 1, 0, 0, 0, []) rfl (LX_no rfl rfl)
set_option maxRecDepth 100000 in
theorem g150_577  : YL L xs i 577 lv st σ ↔ zldR lv 0 (fun x => YL L xs i 578 lv (.ref x :: st) σ) := yZ_iff (.aload_n 0, 1, 0, 0, 0, 0, []) rfl (LX_no rfl rfl)
set_option maxRecDepth 100000 in
theorem g150_578  : YL L xs i 578 lv st σ ↔ zldI lv 3 (fun x => YL L xs i 579 lv (.int x :: st) σ) := yZ_iff (.iload_n 3, 1, 0, 0, 0, 0, []) rfl (LX_no rfl rfl)
set_option maxRecDepth 100000 in
theorem g150_579  : YL L xs i 579 lv st σ ↔ YL L xs i 580 lv (.int 4 :: st) σ := yZ_iff (.iconst 4, 1, 0, 0, 0, 0, []) rfl (LX_no rfl rfl)
set_option maxRecDepth 100000 in
theorem g150_580 {x y : Int32} : YL L xs i 580 lv (.int y :: .int x :: st) σ ↔ YL L xs i 581 lv (.int (x + y) :: st) σ := yZ_iff (.iadd, 1, 0, 0, 0, 0, []) rfl (LX_no rfl rfl)
set_option maxRecDepth 100000 in
theorem g150_581 {j : Int32} {c : Nat} : YL L xs i 581 lv (.int j :: .ref c :: st) σ ↔ (c = 1000 ∧ (1 : Nat) = 1 ∧ vp_in j L) ∧ YL L xs i 582 lv (.int (xs j.toNatClampNeg) :: st) σ := yZ_iff (.iaload, 1, 1, 0, 0, 0, []) rfl (LX_no rfl rfl)
set_option maxRecDepth 100000 in
theorem g150_582 {v0 v1 v2 v3 : Value} {c : Nat} : YL L xs i 582 lv (v3 :: v2 :: v1 :: v0 :: .ref c :: st) σ ↔ (zrcv 6 c ∧ zrm st) ∧ ∃ rv σ', yE 8 70 [.ref c, v0, v1, v2, v3] σ rv σ' ∧ YL L xs i 585 lv (rv.toList ++ st) σ' := yZ_iff (.invokevirtual 79, 3, 70, 4, 303, 0, []) rfl (LX_no rfl rfl)
set_option maxRecDepth 100000 in
theorem g150_585  : YL L xs i 585 lv st σ ↔ zldR lv 2 (fun x => YL L xs i 586 lv (.ref x :: st) σ) := yZ_iff (.aload_n 2, 1, 0, 0, 0, 0, []) rfl (LX_no rfl rfl)
set_option maxRecDepth 100000 in
theorem g150_586  : YL L xs i 586 lv st σ ↔ zldR lv 0 (fun x => YL L xs i 587 lv (.ref x :: st) σ) := yZ_iff (.aload_n 0, 1, 0, 0, 0, 0, []) rfl (LX_no rfl rfl)
set_option maxRecDepth 100000 in
theorem g150_587  : YL L xs i 587 lv st σ ↔ zldI lv 3 (fun x => YL L xs i 588 lv (.int x :: st) σ) := yZ_iff (.iload_n 3, 1, 0, 0, 0, 0, []) rfl (LX_no rfl rfl)
set_option maxRecDepth 100000 in
theorem g150_588  : YL L xs i 588 lv st σ ↔ YL L xs i 589 lv (.int 1 :: st) σ := yZ_iff (.iconst 1, 1, 0, 0, 0, 0, []) rfl (LX_no rfl rfl)
set_option maxRecDepth 100000 in
theorem g150_589 {x y : Int32} : YL L xs i 589 lv (.int y :: .int x :: st) σ ↔ YL L xs i 590 lv (.int (x + y) :: st) σ := yZ_iff (.iadd, 1, 0, 0, 0, 0, []) rfl (LX_no rfl rfl)
set_option maxRecDepth 100000 in
theorem g150_590 {j : Int32} {c : Nat} : YL L xs i 590 lv (.int j :: .ref c :: st) σ ↔ (c = 1000 ∧ (1 : Nat) = 1 ∧ vp_in j L) ∧ YL L xs i 591 lv (.int (xs j.toNatClampNeg) :: st) σ := yZ_iff (.iaload, 1, 1, 0, 0, 0, []) rfl (LX_no rfl rfl)
set_option maxRecDepth 100000 in
theorem g150_591  : YL L xs i 591 lv st σ ↔ zldR lv 0 (fun x => YL L xs i 592 lv (.ref x :: st) σ) := yZ_iff (.aload_n 0, 1, 0, 0, 0, 0, []) rfl (LX_no rfl rfl)
set_option maxRecDepth 100000 in
theorem g150_592  : YL L xs i 592 lv st σ ↔ zldI lv 3 (fun x => YL L xs i 593 lv (.int x :: st) σ) := yZ_iff (.iload_n 3, 1, 0, 0, 0, 0, []) rfl (LX_no rfl rfl)
set_option maxRecDepth 100000 in
theorem g150_593  : YL L xs i 593 lv st σ ↔ YL L xs i 594 lv (.int 2 :: st) σ := yZ_iff (.iconst 2, 1, 0, 0, 0, 0, []) rfl (LX_no rfl rfl)
set_option maxRecDepth 100000 in
theorem g150_594 {x y : Int32} : YL L xs i 594 lv (.int y :: .int x :: st) σ ↔ YL L xs i 595 lv (.int (x + y) :: st) σ := yZ_iff (.iadd, 1, 0, 0, 0, 0, []) rfl (LX_no rfl rfl)
set_option maxRecDepth 100000 in
theorem g150_595 {j : Int32} {c : Nat} : YL L xs i 595 lv (.int j :: .ref c :: st) σ ↔ (c = 1000 ∧ (1 : Nat) = 1 ∧ vp_in j L) ∧ YL L xs i 596 lv (.int (xs j.toNatClampNeg) :: st) σ := yZ_iff (.iaload, 1, 1, 0, 0, 0, []) rfl (LX_no rfl rfl)
set_option maxRecDepth 100000 in
theorem g150_596  : YL L xs i 596 lv st σ ↔ zldR lv 0 (fun x => YL L xs i 597 lv (.ref x :: st) σ) := yZ_iff (.aload_n 0, 1, 0, 0, 0, 0, []) rfl (LX_no rfl rfl)
set_option maxRecDepth 100000 in
theorem g150_597  : YL L xs i 597 lv st σ ↔ zldI lv 3 (fun x => YL L xs i 598 lv (.int x :: st) σ) := yZ_iff (.iload_n 3, 1, 0, 0, 0, 0, []) rfl (LX_no rfl rfl)
set_option maxRecDepth 100000 in
theorem g150_598  : YL L xs i 598 lv st σ ↔ YL L xs i 599 lv (.int 3 :: st) σ := yZ_iff (.iconst 3, 1, 0, 0, 0, 0, []) rfl (LX_no rfl rfl)
set_option maxRecDepth 100000 in
theorem g150_599 {x y : Int32} : YL L xs i 599 lv (.int y :: .int x :: st) σ ↔ YL L xs i 600 lv (.int (x + y) :: st) σ := yZ_iff (.iadd, 1, 0, 0, 0, 0, []) rfl (LX_no rfl rfl)
set_option maxRecDepth 100000 in
theorem g150_600 {j : Int32} {c : Nat} : YL L xs i 600 lv (.int j :: .ref c :: st) σ ↔ (c = 1000 ∧ (1 : Nat) = 1 ∧ vp_in j L) ∧ YL L xs i 601 lv (.int (xs j.toNatClampNeg) :: st) σ := yZ_iff (.iaload, 1, 1, 0, 0, 0, []) rfl (LX_no rfl rfl)
set_option maxRecDepth 100000 in
theorem g150_601  : YL L xs i 601 lv st σ ↔ zldR lv 0 (fun x => YL L xs i 602 lv (.ref x :: st) σ) := yZ_iff (.aload_n 0, 1, 0, 0, 0, 0, []) rfl (LX_no rfl rfl)
set_option maxRecDepth 100000 in
theorem g150_602  : YL L xs i 602 lv st σ ↔ zldI lv 3 (fun x => YL L xs i 603 lv (.int x :: st) σ) := yZ_iff (.iload_n 3, 1, 0, 0, 0, 0, []) rfl (LX_no rfl rfl)
set_option maxRecDepth 100000 in
theorem g150_603  : YL L xs i 603 lv st σ ↔ YL L xs i 604 lv (.int 4 :: st) σ := yZ_iff (.iconst 4, 1, 0, 0, 0, 0, []) rfl (LX_no rfl rfl)
set_option maxRecDepth 100000 in
theorem g150_604 {x y : Int32} : YL L xs i 604 lv (.int y :: .int x :: st) σ ↔ YL L xs i 605 lv (.int (x + y) :: st) σ := yZ_iff (.iadd, 1, 0, 0, 0, 0, []) rfl (LX_no rfl rfl)
set_option maxRecDepth 100000 in
theorem g150_605 {j : Int32} {c : Nat} : YL L xs i 605 lv (.int j :: .ref c :: st) σ ↔ (c = 1000 ∧ (1 : Nat) = 1 ∧ vp_in j L) ∧ YL L xs i 606 lv (.int (xs j.toNatClampNeg) :: st) σ := yZ_iff (.iaload, 1, 1, 0, 0, 0, []) rfl (LX_no rfl rfl)
set_option maxRecDepth 100000 in
theorem g150_606 {v0 v1 v2 v3 : Value} {c : Nat} : YL L xs i 606 lv (v3 :: v2 :: v1 :: v0 :: .ref c :: st) σ ↔ (zrcv 7 c ∧ zrm st) ∧ ∃ rv σ', yE 8 128 [.ref c, v0, v1, v2, v3] σ rv σ' ∧ YL L xs i 609 lv (rv.toList ++ st) σ' := yZ_iff (.invokevirtual 83, 3, 128, 4, 304, 0, []) rfl (LX_no rfl rfl)
set_option maxRecDepth 100000 in
theorem g150_609 {x y : Int32} : YL L xs i 609 lv (.int y :: .int x :: st) σ ↔ (x = y → YL L xs i 919 lv st σ) ∧ (¬ x = y → YL L xs i 612 lv st σ) := yZ_iff (.if_icmp .eq 310, 3, 919, 0, 0, 0, []) rfl (LX_no rfl rfl)
set_option maxRecDepth 100000 in
theorem g150_612  : YL L xs i 612 lv st σ ↔ YL L xs i 613 lv (.int 0 :: st) σ := yZ_iff (.iconst 0, 1, 0, 0, 0, 0, []) rfl (LX_no rfl rfl)
set_option maxRecDepth 100000 in
theorem g150_614  : YL L xs i 614 lv st σ ↔ zldR lv 1 (fun x => YL L xs i 615 lv (.ref x :: st) σ) := yZ_iff (.aload_n 1, 1, 0, 0, 0, 0, []) rfl (LX_no rfl rfl)
set_option maxRecDepth 100000 in
theorem g150_615  : YL L xs i 615 lv st σ ↔ zldR lv 0 (fun x => YL L xs i 616 lv (.ref x :: st) σ) := yZ_iff (.aload_n 0, 1, 0, 0, 0, 0, []) rfl (LX_no rfl rfl)
set_option maxRecDepth 100000 in
theorem g150_616  : YL L xs i 616 lv st σ ↔ zldI lv 3 (fun x => YL L xs i 617 lv (.int x :: st) σ) := yZ_iff (.iload_n 3, 1, 0, 0, 0, 0, []) rfl (LX_no rfl rfl)
set_option maxRecDepth 100000 in
theorem g150_617  : YL L xs i 617 lv st σ ↔ YL L xs i 618 lv (.int 1 :: st) σ := yZ_iff (.iconst 1, 1, 0, 0, 0, 0, []) rfl (LX_no rfl rfl)
set_option maxRecDepth 100000 in
theorem g150_618 {x y : Int32} : YL L xs i 618 lv (.int y :: .int x :: st) σ ↔ YL L xs i 619 lv (.int (x + y) :: st) σ := yZ_iff (.iadd, 1, 0, 0, 0, 0, []) rfl (LX_no rfl rfl)
set_option maxRecDepth 100000 in
theorem g150_619 {j : Int32} {c : Nat} : YL L xs i 619 lv (.int j :: .ref c :: st) σ ↔ (c = 1000 ∧ (1 : Nat) = 1 ∧ vp_in j L) ∧ YL L xs i 620 lv (.int (xs j.toNatClampNeg) :: st) σ := yZ_iff (.iaload, 1, 1, 0, 0, 0, []) rfl (LX_no rfl rfl)
set_option maxRecDepth 100000 in
theorem g150_620  : YL L xs i 620 lv st σ ↔ zldR lv 0 (fun x => YL L xs i 621 lv (.ref x :: st) σ) := yZ_iff (.aload_n 0, 1, 0, 0, 0, 0, []) rfl (LX_no rfl rfl)
set_option maxRecDepth 100000 in
theorem g150_621  : YL L xs i 621 lv st σ ↔ zldI lv 3 (fun x => YL L xs i 622 lv (.int x :: st) σ) := yZ_iff (.iload_n 3, 1, 0, 0, 0, 0, []) rfl (LX_no rfl rfl)
set_option maxRecDepth 100000 in
theorem g150_622  : YL L xs i 622 lv st σ ↔ YL L xs i 623 lv (.int 2 :: st) σ := yZ_iff (.iconst 2, 1, 0, 0, 0, 0, []) rfl (LX_no rfl rfl)
set_option maxRecDepth 100000 in
theorem g150_623 {x y : Int32} : YL L xs i 623 lv (.int y :: .int x :: st) σ ↔ YL L xs i 624 lv (.int (x + y) :: st) σ := yZ_iff (.iadd, 1, 0, 0, 0, 0, []) rfl (LX_no rfl rfl)
set_option maxRecDepth 100000 in
theorem g150_624 {j : Int32} {c : Nat} : YL L xs i 624 lv (.int j :: .ref c :: st) σ ↔ (c = 1000 ∧ (1 : Nat) = 1 ∧ vp_in j L) ∧ YL L xs i 625 lv (.int (xs j.toNatClampNeg) :: st) σ := yZ_iff (.iaload, 1, 1, 0, 0, 0, []) rfl (LX_no rfl rfl)
set_option maxRecDepth 100000 in
theorem g150_625  : YL L xs i 625 lv st σ ↔ zldR lv 0 (fun x => YL L xs i 626 lv (.ref x :: st) σ) := yZ_iff (.aload_n 0, 1, 0, 0, 0, 0, []) rfl (LX_no rfl rfl)
set_option maxRecDepth 100000 in
theorem g150_626  : YL L xs i 626 lv st σ ↔ zldI lv 3 (fun x => YL L xs i 627 lv (.int x :: st) σ) := yZ_iff (.iload_n 3, 1, 0, 0, 0, 0, []) rfl (LX_no rfl rfl)
set_option maxRecDepth 100000 in
theorem g150_627  : YL L xs i 627 lv st σ ↔ YL L xs i 628 lv (.int 3 :: st) σ := yZ_iff (.iconst 3, 1, 0, 0, 0, 0, []) rfl (LX_no rfl rfl)
set_option maxRecDepth 100000 in
theorem g150_628 {x y : Int32} : YL L xs i 628 lv (.int y :: .int x :: st) σ ↔ YL L xs i 629 lv (.int (x + y) :: st) σ := yZ_iff (.iadd, 1, 0, 0, 0, 0, []) rfl (LX_no rfl rfl)
set_option maxRecDepth 100000 in
theorem g150_629 {j : Int32} {c : Nat} : YL L xs i 629 lv (.int j :: .ref c :: st) σ ↔ (c = 1000 ∧ (1 : Nat) = 1 ∧ vp_in j L) ∧ YL L xs i 630 lv (.int (xs j.toNatClampNeg) :: st) σ := yZ_iff (.iaload, 1, 1, 0, 0, 0, []) rfl (LX_no rfl rfl)
set_option maxRecDepth 100000 in
theorem g150_630 {v0 v1 v2 : Value} {c : Nat} : YL L xs i 630 lv (v2 :: v1 :: v0 :: .ref c :: st) σ ↔ (zrcv 6 c ∧ zrm st) ∧ ∃ rv σ', yE 8 71 [.ref c, v0, v1, v2] σ rv σ' ∧ YL L xs i 633 lv (rv.toList ++ st) σ' := yZ_iff (.invokevirtual 84, 3, 71, 3, 305, 0, []) rfl (LX_no rfl rfl)
set_option maxRecDepth 100000 in
theorem g150_633  : YL L xs i 633 lv st σ ↔ zldR lv 2 (fun x => YL L xs i 634 lv (.ref x :: st) σ) := yZ_iff (.aload_n 2, 1, 0, 0, 0, 0, []) rfl (LX_no rfl rfl)
set_option maxRecDepth 100000 in
theorem g150_634  : YL L xs i 634 lv st σ ↔ zldR lv 0 (fun x => YL L xs i 635 lv (.ref x :: st) σ) := yZ_iff (.aload_n 0, 1, 0, 0, 0, 0, []) rfl (LX_no rfl rfl)
set_option maxRecDepth 100000 in
theorem g150_635  : YL L xs i 635 lv st σ ↔ zldI lv 3 (fun x => YL L xs i 636 lv (.int x :: st) σ) := yZ_iff (.iload_n 3, 1, 0, 0, 0, 0, []) rfl (LX_no rfl rfl)
set_option maxRecDepth 100000 in
theorem g150_636  : YL L xs i 636 lv st σ ↔ YL L xs i 637 lv (.int 1 :: st) σ := yZ_iff (.iconst 1, 1, 0, 0, 0, 0, []) rfl (LX_no rfl rfl)
set_option maxRecDepth 100000 in
theorem g150_637 {x y : Int32} : YL L xs i 637 lv (.int y :: .int x :: st) σ ↔ YL L xs i 638 lv (.int (x + y) :: st) σ := yZ_iff (.iadd, 1, 0, 0, 0, 0, []) rfl (LX_no rfl rfl)
set_option maxRecDepth 100000 in
theorem g150_638 {j : Int32} {c : Nat} : YL L xs i 638 lv (.int j :: .ref c :: st) σ ↔ (c = 1000 ∧ (1 : Nat) = 1 ∧ vp_in j L) ∧ YL L xs i 639 lv (.int (xs j.toNatClampNeg) :: st) σ := yZ_iff (.iaload, 1, 1, 0, 0, 0, []) rfl (LX_no rfl rfl)
set_option maxRecDepth 100000 in
theorem g150_639  : YL L xs i 639 lv st σ ↔ zldR lv 0 (fun x => YL L xs i 640 lv (.ref x :: st) σ) := yZ_iff (.aload_n 0, 1, 0, 0, 0, 0, []) rfl (LX_no rfl rfl)
set_option maxRecDepth 100000 in
theorem g150_640  : YL L xs i 640 lv st σ ↔ zldI lv 3 (fun x => YL L xs i 641 lv (.int x :: st) σ) := yZ_iff (.iload_n 3, 1, 0, 0, 0, 0, []) rfl (LX_no rfl rfl)
set_option maxRecDepth 100000 in
theorem g150_641  : YL L xs i 641 lv st σ ↔ YL L xs i 642 lv (.int 2 :: st) σ := yZ_iff (.iconst 2, 1, 0, 0, 0, 0, []) rfl (LX_no rfl rfl)
set_option maxRecDepth 100000 in
theorem g150_642 {x y : Int32} : YL L xs i 642 lv (.int y :: .int x :: st) σ ↔ YL L xs i 643 lv (.int (x + y) :: st) σ := yZ_iff (.iadd, 1, 0, 0, 0, 0, []) rfl (LX_no rfl rfl)
set_option maxRecDepth 100000 in
theorem g150_643 {j : Int32} {c : Nat} : YL L xs i 643 lv (.int j :: .ref c :: st) σ ↔ (c = 1000 ∧ (1 : Nat) = 1 ∧ vp_in j L) ∧ YL L xs i 644 lv (.int (xs j.toNatClampNeg) :: st) σ := yZ_iff (.iaload, 1, 1, 0, 0, 0, []) rfl (LX_no rfl rfl)
set_option maxRecDepth 100000 in
theorem g150_644  : YL L xs i 644 lv st σ ↔ zldR lv 0 (fun x => YL L xs i 645 lv (.ref x :: st) σ) := yZ_iff (.aload_n 0, 1, 0, 0, 0, 0, []) rfl (LX_no rfl rfl)
set_option maxRecDepth 100000 in
theorem g150_645  : YL L xs i 645 lv st σ ↔ zldI lv 3 (fun x => YL L xs i 646 lv (.int x :: st) σ) := yZ_iff (.iload_n 3, 1, 0, 0, 0, 0, []) rfl (LX_no rfl rfl)
set_option maxRecDepth 100000 in
theorem g150_646  : YL L xs i 646 lv st σ ↔ YL L xs i 647 lv (.int 3 :: st) σ := yZ_iff (.iconst 3, 1, 0, 0, 0, 0, []) rfl (LX_no rfl rfl)
set_option maxRecDepth 100000 in
theorem g150_647 {x y : Int32} : YL L xs i 647 lv (.int y :: .int x :: st) σ ↔ YL L xs i 648 lv (.int (x + y) :: st) σ := yZ_iff (.iadd, 1, 0, 0, 0, 0, []) rfl (LX_no rfl rfl)
set_option maxRecDepth 100000 in
theorem g150_648 {j : Int32} {c : Nat} : YL L xs i 648 lv (.int j :: .ref c :: st) σ ↔ (c = 1000 ∧ (1 : Nat) = 1 ∧ vp_in j L) ∧ YL L xs i 649 lv (.int (xs j.toNatClampNeg) :: st) σ := yZ_iff (.iaload, 1, 1, 0, 0, 0, []) rfl (LX_no rfl rfl)
set_option maxRecDepth 100000 in
theorem g150_649 {v0 v1 v2 : Value} {c : Nat} : YL L xs i 649 lv (v2 :: v1 :: v0 :: .ref c :: st) σ ↔ (zrcv 7 c ∧ zrm st) ∧ ∃ rv σ', yE 8 131 [.ref c, v0, v1, v2] σ rv σ' ∧ YL L xs i 652 lv (rv.toList ++ st) σ' := yZ_iff (.invokevirtual 88, 3, 131, 3, 306, 0, []) rfl (LX_no rfl rfl)
set_option maxRecDepth 100000 in
theorem g150_652 {x y : Int64} : YL L xs i 652 lv (.long y :: .long x :: st) σ ↔ YL L xs i 653 lv (.int (lg_cmp x y) :: st) σ := yZ_iff (.lcmp, 1, 0, 0, 0, 0, []) rfl (LX_no rfl rfl)
set_option maxRecDepth 100000 in
theorem g150_653 {x : Int32} : YL L xs i 653 lv (.int x :: st) σ ↔ (x = 0 → YL L xs i 919 lv st σ) ∧ (¬ x = 0 → YL L xs i 656 lv st σ) := yZ_iff (.ifCond .eq 266, 3, 919, 0, 0, 0, []) rfl (LX_no rfl rfl)
set_option maxRecDepth 100000 in
theorem g150_656  : YL L xs i 656 lv st σ ↔ YL L xs i 657 lv (.int 0 :: st) σ := yZ_iff (.iconst 0, 1, 0, 0, 0, 0, []) rfl (LX_no rfl rfl)
set_option maxRecDepth 100000 in
theorem g150_658  : YL L xs i 658 lv st σ ↔ zldR lv 1 (fun x => YL L xs i 659 lv (.ref x :: st) σ) := yZ_iff (.aload_n 1, 1, 0, 0, 0, 0, []) rfl (LX_no rfl rfl)
set_option maxRecDepth 100000 in
theorem g150_659  : YL L xs i 659 lv st σ ↔ zldR lv 0 (fun x => YL L xs i 660 lv (.ref x :: st) σ) := yZ_iff (.aload_n 0, 1, 0, 0, 0, 0, []) rfl (LX_no rfl rfl)
set_option maxRecDepth 100000 in
theorem g150_660  : YL L xs i 660 lv st σ ↔ zldI lv 3 (fun x => YL L xs i 661 lv (.int x :: st) σ) := yZ_iff (.iload_n 3, 1, 0, 0, 0, 0, []) rfl (LX_no rfl rfl)
set_option maxRecDepth 100000 in
theorem g150_661  : YL L xs i 661 lv st σ ↔ YL L xs i 662 lv (.int 1 :: st) σ := yZ_iff (.iconst 1, 1, 0, 0, 0, 0, []) rfl (LX_no rfl rfl)
set_option maxRecDepth 100000 in
theorem g150_662 {x y : Int32} : YL L xs i 662 lv (.int y :: .int x :: st) σ ↔ YL L xs i 663 lv (.int (x + y) :: st) σ := yZ_iff (.iadd, 1, 0, 0, 0, 0, []) rfl (LX_no rfl rfl)
set_option maxRecDepth 100000 in
theorem g150_663 {j : Int32} {c : Nat} : YL L xs i 663 lv (.int j :: .ref c :: st) σ ↔ (c = 1000 ∧ (1 : Nat) = 1 ∧ vp_in j L) ∧ YL L xs i 664 lv (.int (xs j.toNatClampNeg) :: st) σ := yZ_iff (.iaload, 1, 1, 0, 0, 0, []) rfl (LX_no rfl rfl)
set_option maxRecDepth 100000 in
theorem g150_664  : YL L xs i 664 lv st σ ↔ zldR lv 0 (fun x => YL L xs i 665 lv (.ref x :: st) σ) := yZ_iff (.aload_n 0, 1, 0, 0, 0, 0, []) rfl (LX_no rfl rfl)
set_option maxRecDepth 100000 in
theorem g150_665  : YL L xs i 665 lv st σ ↔ zldI lv 3 (fun x => YL L xs i 666 lv (.int x :: st) σ) := yZ_iff (.iload_n 3, 1, 0, 0, 0, 0, []) rfl (LX_no rfl rfl)
set_option maxRecDepth 100000 in
theorem g150_666  : YL L xs i 666 lv st σ ↔ YL L xs i 667 lv (.int 2 :: st) σ := yZ_iff (.iconst 2, 1, 0, 0, 0, 0, []) rfl (LX_no rfl rfl)
set_option maxRecDepth 100000 in
theorem g150_667 {x y : Int32} : YL L xs i 667 lv (.int y :: .int x :: st) σ ↔ YL L xs i 668 lv (.int (x + y) :: st) σ := yZ_iff (.iadd, 1, 0, 0, 0, 0, []) rfl (LX_no rfl rfl)
set_option maxRecDepth 100000 in
theorem g150_668 {j : Int32} {c : Nat} : YL L xs i 668 lv (.int j :: .ref c :: st) σ ↔ (c = 1000 ∧ (1 : Nat) = 1 ∧ vp_in j L) ∧ YL L xs i 669 lv (.int (xs j.toNatClampNeg) :: st) σ := yZ_iff (.iaload, 1, 1, 0, 0, 0, []) rfl (LX_no rfl rfl)
set_option maxRecDepth 100000 in
theorem g150_669  : YL L xs i 669 lv st σ ↔ zldR lv 0 (fun x => YL L xs i 670 lv (.ref x :: st) σ) := yZ_iff (.aload_n 0, 1, 0, 0, 0, 0, []) rfl (LX_no rfl rfl)
set_option maxRecDepth 100000 in
theorem g150_670  : YL L xs i 670 lv st σ ↔ zldI lv 3 (fun x => YL L xs i 671 lv (.int x :: st) σ) := yZ_iff (.iload_n 3, 1, 0, 0, 0, 0, []) rfl (LX_no rfl rfl)
set_option maxRecDepth 100000 in
theorem g150_671  : YL L xs i 671 lv st σ ↔ YL L xs i 672 lv (.int 3 :: st) σ := yZ_iff (.iconst 3, 1, 0, 0, 0, 0, []) rfl (LX_no rfl rfl)
set_option maxRecDepth 100000 in
theorem g150_672 {x y : Int32} : YL L xs i 672 lv (.int y :: .int x :: st) σ ↔ YL L xs i 673 lv (.int (x + y) :: st) σ := yZ_iff (.iadd, 1, 0, 0, 0, 0, []) rfl (LX_no rfl rfl)
set_option maxRecDepth 100000 in
theorem g150_673 {j : Int32} {c : Nat} : YL L xs i 673 lv (.int j :: .ref c :: st) σ ↔ (c = 1000 ∧ (1 : Nat) = 1 ∧ vp_in j L) ∧ YL L xs i 674 lv (.int (xs j.toNatClampNeg) :: st) σ := yZ_iff (.iaload, 1, 1, 0, 0, 0, []) rfl (LX_no rfl rfl)
set_option maxRecDepth 100000 in
theorem g150_674 {v0 v1 v2 : Value} {c : Nat} : YL L xs i 674 lv (v2 :: v1 :: v0 :: .ref c :: st) σ ↔ (zrcv 6 c ∧ zrm st) ∧ ∃ rv σ', yE 8 72 [.ref c, v0, v1, v2] σ rv σ' ∧ YL L xs i 677 lv (rv.toList ++ st) σ' := yZ_iff (.invokevirtual 89, 3, 72, 3, 307, 0, []) rfl (LX_no rfl rfl)
set_option maxRecDepth 100000 in
theorem g150_677  : YL L xs i 677 lv st σ ↔ zldR lv 2 (fun x => YL L xs i 678 lv (.ref x :: st) σ) := yZ_iff (.aload_n 2, 1, 0, 0, 0, 0, []) rfl (LX_no rfl rfl)
set_option maxRecDepth 100000 in
theorem g150_678  : YL L xs i 678 lv st σ ↔ zldR lv 0 (fun x => YL L xs i 679 lv (.ref x :: st) σ) := yZ_iff (.aload_n 0, 1, 0, 0, 0, 0, []) rfl (LX_no rfl rfl)
set_option maxRecDepth 100000 in
theorem g150_679  : YL L xs i 679 lv st σ ↔ zldI lv 3 (fun x => YL L xs i 680 lv (.int x :: st) σ) := yZ_iff (.iload_n 3, 1, 0, 0, 0, 0, []) rfl (LX_no rfl rfl)
set_option maxRecDepth 100000 in
theorem g150_680  : YL L xs i 680 lv st σ ↔ YL L xs i 681 lv (.int 1 :: st) σ := yZ_iff (.iconst 1, 1, 0, 0, 0, 0, []) rfl (LX_no rfl rfl)
set_option maxRecDepth 100000 in
theorem g150_681 {x y : Int32} : YL L xs i 681 lv (.int y :: .int x :: st) σ ↔ YL L xs i 682 lv (.int (x + y) :: st) σ := yZ_iff (.iadd, 1, 0, 0, 0, 0, []) rfl (LX_no rfl rfl)
set_option maxRecDepth 100000 in
theorem g150_682 {j : Int32} {c : Nat} : YL L xs i 682 lv (.int j :: .ref c :: st) σ ↔ (c = 1000 ∧ (1 : Nat) = 1 ∧ vp_in j L) ∧ YL L xs i 683 lv (.int (xs j.toNatClampNeg) :: st) σ := yZ_iff (.iaload, 1, 1, 0, 0, 0, []) rfl (LX_no rfl rfl)
set_option maxRecDepth 100000 in
theorem g150_683  : YL L xs i 683 lv st σ ↔ zldR lv 0 (fun x => YL L xs i 684 lv (.ref x :: st) σ) := yZ_iff (.aload_n 0, 1, 0, 0, 0, 0, []) rfl (LX_no rfl rfl)
set_option maxRecDepth 100000 in
theorem g150_684  : YL L xs i 684 lv st σ ↔ zldI lv 3 (fun x => YL L xs i 685 lv (.int x :: st) σ) := yZ_iff (.iload_n 3, 1, 0, 0, 0, 0, []) rfl (LX_no rfl rfl)
set_option maxRecDepth 100000 in
theorem g150_685  : YL L xs i 685 lv st σ ↔ YL L xs i 686 lv (.int 2 :: st) σ := yZ_iff (.iconst 2, 1, 0, 0, 0, 0, []) rfl (LX_no rfl rfl)
set_option maxRecDepth 100000 in
theorem g150_686 {x y : Int32} : YL L xs i 686 lv (.int y :: .int x :: st) σ ↔ YL L xs i 687 lv (.int (x + y) :: st) σ := yZ_iff (.iadd, 1, 0, 0, 0, 0, []) rfl (LX_no rfl rfl)
set_option maxRecDepth 100000 in
theorem g150_687 {j : Int32} {c : Nat} : YL L xs i 687 lv (.int j :: .ref c :: st) σ ↔ (c = 1000 ∧ (1 : Nat) = 1 ∧ vp_in j L) ∧ YL L xs i 688 lv (.int (xs j.toNatClampNeg) :: st) σ := yZ_iff (.iaload, 1, 1, 0, 0, 0, []) rfl (LX_no rfl rfl)
set_option maxRecDepth 100000 in
theorem g150_688  : YL L xs i 688 lv st σ ↔ zldR lv 0 (fun x => YL L xs i 689 lv (.ref x :: st) σ) := yZ_iff (.aload_n 0, 1, 0, 0, 0, 0, []) rfl (LX_no rfl rfl)
set_option maxRecDepth 100000 in
theorem g150_689  : YL L xs i 689 lv st σ ↔ zldI lv 3 (fun x => YL L xs i 690 lv (.int x :: st) σ) := yZ_iff (.iload_n 3, 1, 0, 0, 0, 0, []) rfl (LX_no rfl rfl)
set_option maxRecDepth 100000 in
theorem g150_690  : YL L xs i 690 lv st σ ↔ YL L xs i 691 lv (.int 3 :: st) σ := yZ_iff (.iconst 3, 1, 0, 0, 0, 0, []) rfl (LX_no rfl rfl)
set_option maxRecDepth 100000 in
theorem g150_691 {x y : Int32} : YL L xs i 691 lv (.int y :: .int x :: st) σ ↔ YL L xs i 692 lv (.int (x + y) :: st) σ := yZ_iff (.iadd, 1, 0, 0, 0, 0, []) rfl (LX_no rfl rfl)
set_option maxRecDepth 100000 in
theorem g150_692 {j : Int32} {c : Nat} : YL L xs i 692 lv (.int j :: .ref c :: st) σ ↔ (c = 1000 ∧ (1 : Nat) = 1 ∧ vp_in j L) ∧ YL L xs i 693 lv (.int (xs j.toNatClampNeg) :: st) σ := yZ_iff (.iaload, 1, 1, 0, 0, 0, []) rfl (LX_no rfl rfl)
set_option maxRecDepth 100000 in
theorem g150_693 {v0 v1 v2 : Value} {c : Nat} : YL L xs i 693 lv (v2 :: v1 :: v0 :: .ref c :: st) σ ↔ (zrcv 7 c ∧ zrm st) ∧ ∃ rv σ', yE 8 132 [.ref c, v0, v1, v2] σ rv σ' ∧ YL L xs i 696 lv (rv.toList ++ st) σ' := yZ_iff (.invokevirtual 93, 3, 132, 3, 308, 0, []) rfl (LX_no rfl rfl)
set_option maxRecDepth 100000 in
theorem g150_696 {x y : Int32} : YL L xs i 696 lv (.int y :: .int x :: st) σ ↔ (x = y → YL L xs i 919 lv st σ) ∧ (¬ x = y → YL L xs i 699 lv st σ) := yZ_iff (.if_icmp .eq 223, 3, 919, 0, 0, 0, []) rfl (LX_no rfl rfl)
set_option maxRecDepth 100000 in
theorem g150_699  : YL L xs i 699 lv st σ ↔ YL L xs i 700 lv (.int 0 :: st) σ := yZ_iff (.iconst 0, 1, 0, 0, 0, 0, []) rfl (LX_no rfl rfl)
set_option maxRecDepth 100000 in
theorem g150_701  : YL L xs i 701 lv st σ ↔ zldR lv 1 (fun x => YL L xs i 702 lv (.ref x :: st) σ) := yZ_iff (.aload_n 1, 1, 0, 0, 0, 0, []) rfl (LX_no rfl rfl)
set_option maxRecDepth 100000 in
theorem g150_702 {c : Nat} : YL L xs i 702 lv (.ref c :: st) σ ↔ (zrcv 6 c ∧ zrm st) ∧ ∃ rv σ', yE 8 73 [.ref c] σ rv σ' ∧ YL L xs i 705 lv (rv.toList ++ st) σ' := yZ_iff (.invokevirtual 94, 3, 73, 0, 309, 0, []) rfl (LX_no rfl rfl)
set_option maxRecDepth 100000 in
theorem g150_705  : YL L xs i 705 lv st σ ↔ zldR lv 2 (fun x => YL L xs i 706 lv (.ref x :: st) σ) := yZ_iff (.aload_n 2, 1, 0, 0, 0, 0, []) rfl (LX_no rfl rfl)
set_option maxRecDepth 100000 in
theorem g150_706 {c : Nat} : YL L xs i 706 lv (.ref c :: st) σ ↔ (zrcv 7 c ∧ zrm st) ∧ ∃ rv σ', yE 8 135 [.ref c] σ rv σ' ∧ YL L xs i 709 lv (rv.toList ++ st) σ' := yZ_iff (.invokevirtual 97, 3, 135, 0, 310, 0, []) rfl (LX_no rfl rfl)
set_option maxRecDepth 100000 in
theorem g150_709 {x y : Int32} : YL L xs i 709 lv (.int y :: .int x :: st) σ ↔ (x = y → YL L xs i 919 lv st σ) ∧ (¬ x = y → YL L xs i 712 lv st σ) := yZ_iff (.if_icmp .eq 210, 3, 919, 0, 0, 0, []) rfl (LX_no rfl rfl)
set_option maxRecDepth 100000 in
theorem g150_712  : YL L xs i 712 lv st σ ↔ YL L xs i 713 lv (.int 0 :: st) σ := yZ_iff (.iconst 0, 1, 0, 0, 0, 0, []) rfl (LX_no rfl rfl)
set_option maxRecDepth 100000 in
theorem g150_714  : YL L xs i 714 lv st σ ↔ zldR lv 1 (fun x => YL L xs i 715 lv (.ref x :: st) σ) := yZ_iff (.aload_n 1, 1, 0, 0, 0, 0, []) rfl (LX_no rfl rfl)
set_option maxRecDepth 100000 in
theorem g150_715  : YL L xs i 715 lv st σ ↔ zldR lv 0 (fun x => YL L xs i 716 lv (.ref x :: st) σ) := yZ_iff (.aload_n 0, 1, 0, 0, 0, 0, []) rfl (LX_no rfl rfl)
set_option maxRecDepth 100000 in
theorem g150_716  : YL L xs i 716 lv st σ ↔ zldI lv 3 (fun x => YL L xs i 717 lv (.int x :: st) σ) := yZ_iff (.iload_n 3, 1, 0, 0, 0, 0, []) rfl (LX_no rfl rfl)
set_option maxRecDepth 100000 in
theorem g150_717  : YL L xs i 717 lv st σ ↔ YL L xs i 718 lv (.int 1 :: st) σ := yZ_iff (.iconst 1, 1, 0, 0, 0, 0, []) rfl (LX_no rfl rfl)
set_option maxRecDepth 100000 in
theorem g150_718 {x y : Int32} : YL L xs i 718 lv (.int y :: .int x :: st) σ ↔ YL L xs i 719 lv (.int (x + y) :: st) σ := yZ_iff (.iadd, 1, 0, 0, 0, 0, []) rfl (LX_no rfl rfl)
set_option maxRecDepth 100000 in
theorem g150_719 {j : Int32} {c : Nat} : YL L xs i 719 lv (.int j :: .ref c :: st) σ ↔ (c = 1000 ∧ (1 : Nat) = 1 ∧ vp_in j L) ∧ YL L xs i 720 lv (.int (xs j.toNatClampNeg) :: st) σ := yZ_iff (.iaload, 1, 1, 0, 0, 0, []) rfl (LX_no rfl rfl)
set_option maxRecDepth 100000 in
theorem g150_720 {v0 : Value} {c : Nat} : YL L xs i 720 lv (v0 :: .ref c :: st) σ ↔ (zrcv 6 c ∧ zrm st) ∧ ∃ rv σ', yE 8 74 [.ref c, v0] σ rv σ' ∧ YL L xs i 723 lv (rv.toList ++ st) σ' := yZ_iff (.invokevirtual 98, 3, 74, 1, 311, 0, []) rfl (LX_no rfl rfl)
set_option maxRecDepth 100000 in
theorem g150_723  : YL L xs i 723 lv st σ ↔ zldR lv 2 (fun x => YL L xs i 724 lv (.ref x :: st) σ) := yZ_iff (.aload_n 2, 1, 0, 0, 0, 0, []) rfl (LX_no rfl rfl)
set_option maxRecDepth 100000 in
theorem g150_724  : YL L xs i 724 lv st σ ↔ zldR lv 0 (fun x => YL L xs i 725 lv (.ref x :: st) σ) := yZ_iff (.aload_n 0, 1, 0, 0, 0, 0, []) rfl (LX_no rfl rfl)
set_option maxRecDepth 100000 in
theorem g150_725  : YL L xs i 725 lv st σ ↔ zldI lv 3 (fun x => YL L xs i 726 lv (.int x :: st) σ) := yZ_iff (.iload_n 3, 1, 0, 0, 0, 0, []) rfl (LX_no rfl rfl)
set_option maxRecDepth 100000 in
theorem g150_726  : YL L xs i 726 lv st σ ↔ YL L xs i 727 lv (.int 1 :: st) σ := yZ_iff (.iconst 1, 1, 0, 0, 0, 0, []) rfl (LX_no rfl rfl)
set_option maxRecDepth 100000 in
theorem g150_727 {x y : Int32} : YL L xs i 727 lv (.int y :: .int x :: st) σ ↔ YL L xs i 728 lv (.int (x + y) :: st) σ := yZ_iff (.iadd, 1, 0, 0, 0, 0, []) rfl (LX_no rfl rfl)
set_option maxRecDepth 100000 in
theorem g150_728 {j : Int32} {c : Nat} : YL L xs i 728 lv (.int j :: .ref c :: st) σ ↔ (c = 1000 ∧ (1 : Nat) = 1 ∧ vp_in j L) ∧ YL L xs i 729 lv (.int (xs j.toNatClampNeg) :: st) σ := yZ_iff (.iaload, 1, 1, 0, 0, 0, []) rfl (LX_no rfl rfl)
set_option maxRecDepth 100000 in
theorem g150_729 {v0 : Value} {c : Nat} : YL L xs i 729 lv (v0 :: .ref c :: st) σ ↔ (zrcv 7 c ∧ zrm st) ∧ ∃ rv σ', yE 8 136 [.ref c, v0] σ rv σ' ∧ YL L xs i 732 lv (rv.toList ++ st) σ' := yZ_iff (.invokevirtual 101, 3, 136, 1, 312, 0, []) rfl (LX_no rfl rfl)
set_option maxRecDepth 100000 in
theorem g150_732 {x y : Int32} : YL L xs i 732 lv (.int y :: .int x :: st) σ ↔ (x = y → YL L xs i 919 lv st σ) ∧ (¬ x = y → YL L xs i 735 lv st σ) := yZ_iff (.if_icmp .eq 187, 3, 919, 0, 0, 0, []) rfl (LX_no rfl rfl)
set_option maxRecDepth 100000 in
theorem g150_735  : YL L xs i 735 lv st σ ↔ YL L xs i 736 lv (.int 0 :: st) σ := yZ_iff (.iconst 0, 1, 0, 0, 0, 0, []) rfl (LX_no rfl rfl)
set_option maxRecDepth 100000 in
theorem g150_737  : YL L xs i 737 lv st σ ↔ zldR lv 1 (fun x => YL L xs i 738 lv (.ref x :: st) σ) := yZ_iff (.aload_n 1, 1, 0, 0, 0, 0, []) rfl (LX_no rfl rfl)
set_option maxRecDepth 100000 in
theorem g150_738  : YL L xs i 738 lv st σ ↔ zldR lv 0 (fun x => YL L xs i 739 lv (.ref x :: st) σ) := yZ_iff (.aload_n 0, 1, 0, 0, 0, 0, []) rfl (LX_no rfl rfl)
set_option maxRecDepth 100000 in
theorem g150_739  : YL L xs i 739 lv st σ ↔ zldI lv 3 (fun x => YL L xs i 740 lv (.int x :: st) σ) := yZ_iff (.iload_n 3, 1, 0, 0, 0, 0, []) rfl (LX_no rfl rfl)
set_option maxRecDepth 100000 in
theorem g150_740  : YL L xs i 740 lv st σ ↔ YL L xs i 741 lv (.int 1 :: st) σ := yZ_iff (.iconst 1, 1, 0, 0, 0, 0, []) rfl (LX_no rfl rfl)
set_option maxRecDepth 100000 in
theorem g150_741 {x y : Int32} : YL L xs i 741 lv (.int y :: .int x :: st) σ ↔ YL L xs i 742 lv (.int (x + y) :: st) σ := yZ_iff (.iadd, 1, 0, 0, 0, 0, []) rfl (LX_no rfl rfl)
set_option maxRecDepth 100000 in
theorem g150_742 {j : Int32} {c : Nat} : YL L xs i 742 lv (.int j :: .ref c :: st) σ ↔ (c = 1000 ∧ (1 : Nat) = 1 ∧ vp_in j L) ∧ YL L xs i 743 lv (.int (xs j.toNatClampNeg) :: st) σ := yZ_iff (.iaload, 1, 1, 0, 0, 0, []) rfl (LX_no rfl rfl)
set_option maxRecDepth 100000 in
theorem g150_743 {v0 : Value} {c : Nat} : YL L xs i 743 lv (v0 :: .ref c :: st) σ ↔ (zrcv 6 c ∧ zrm st) ∧ ∃ rv σ', yE 8 75 [.ref c, v0] σ rv σ' ∧ YL L xs i 746 lv (rv.toList ++ st) σ' := yZ_iff (.invokevirtual 102, 3, 75, 1, 313, 0, []) rfl (LX_no rfl rfl)
set_option maxRecDepth 100000 in
theorem g150_746  : YL L xs i 746 lv st σ ↔ zldR lv 2 (fun x => YL L xs i 747 lv (.ref x :: st) σ) := yZ_iff (.aload_n 2, 1, 0, 0, 0, 0, []) rfl (LX_no rfl rfl)
set_option maxRecDepth 100000 in
theorem g150_747  : YL L xs i 747 lv st σ ↔ zldR lv 0 (fun x => YL L xs i 748 lv (.ref x :: st) σ) := yZ_iff (.aload_n 0, 1, 0, 0, 0, 0, []) rfl (LX_no rfl rfl)
set_option maxRecDepth 100000 in
theorem g150_748  : YL L xs i 748 lv st σ ↔ zldI lv 3 (fun x => YL L xs i 749 lv (.int x :: st) σ) := yZ_iff (.iload_n 3, 1, 0, 0, 0, 0, []) rfl (LX_no rfl rfl)
set_option maxRecDepth 100000 in
theorem g150_749  : YL L xs i 749 lv st σ ↔ YL L xs i 750 lv (.int 1 :: st) σ := yZ_iff (.iconst 1, 1, 0, 0, 0, 0, []) rfl (LX_no rfl rfl)
set_option maxRecDepth 100000 in
theorem g150_750 {x y : Int32} : YL L xs i 750 lv (.int y :: .int x :: st) σ ↔ YL L xs i 751 lv (.int (x + y) :: st) σ := yZ_iff (.iadd, 1, 0, 0, 0, 0, []) rfl (LX_no rfl rfl)
set_option maxRecDepth 100000 in
theorem g150_751 {j : Int32} {c : Nat} : YL L xs i 751 lv (.int j :: .ref c :: st) σ ↔ (c = 1000 ∧ (1 : Nat) = 1 ∧ vp_in j L) ∧ YL L xs i 752 lv (.int (xs j.toNatClampNeg) :: st) σ := yZ_iff (.iaload, 1, 1, 0, 0, 0, []) rfl (LX_no rfl rfl)
set_option maxRecDepth 100000 in
theorem g150_752 {v0 : Value} {c : Nat} : YL L xs i 752 lv (v0 :: .ref c :: st) σ ↔ (zrcv 7 c ∧ zrm st) ∧ ∃ rv σ', yE 8 137 [.ref c, v0] σ rv σ' ∧ YL L xs i 755 lv (rv.toList ++ st) σ' := yZ_iff (.invokevirtual 105, 3, 137, 1, 314, 0, []) rfl (LX_no rfl rfl)
set_option maxRecDepth 100000 in
theorem g150_755 {x y : Int32} : YL L xs i 755 lv (.int y :: .int x :: st) σ ↔ (x = y → YL L xs i 919 lv st σ) ∧ (¬ x = y → YL L xs i 758 lv st σ) := yZ_iff (.if_icmp .eq 164, 3, 919, 0, 0, 0, []) rfl (LX_no rfl rfl)
set_option maxRecDepth 100000 in
theorem g150_758  : YL L xs i 758 lv st σ ↔ YL L xs i 759 lv (.int 0 :: st) σ := yZ_iff (.iconst 0, 1, 0, 0, 0, 0, []) rfl (LX_no rfl rfl)
set_option maxRecDepth 100000 in
theorem g150_760  : YL L xs i 760 lv st σ ↔ zldR lv 1 (fun x => YL L xs i 761 lv (.ref x :: st) σ) := yZ_iff (.aload_n 1, 1, 0, 0, 0, 0, []) rfl (LX_no rfl rfl)
set_option maxRecDepth 100000 in
theorem g150_761  : YL L xs i 761 lv st σ ↔ zldR lv 0 (fun x => YL L xs i 762 lv (.ref x :: st) σ) := yZ_iff (.aload_n 0, 1, 0, 0, 0, 0, []) rfl (LX_no rfl rfl)
set_option maxRecDepth 100000 in
theorem g150_762  : YL L xs i 762 lv st σ ↔ zldI lv 3 (fun x => YL L xs i 763 lv (.int x :: st) σ) := yZ_iff (.iload_n 3, 1, 0, 0, 0, 0, []) rfl (LX_no rfl rfl)
set_option maxRecDepth 100000 in
theorem g150_763  : YL L xs i 763 lv st σ ↔ YL L xs i 764 lv (.int 1 :: st) σ := yZ_iff (.iconst 1, 1, 0, 0, 0, 0, []) rfl (LX_no rfl rfl)
set_option maxRecDepth 100000 in
theorem g150_764 {x y : Int32} : YL L xs i 764 lv (.int y :: .int x :: st) σ ↔ YL L xs i 765 lv (.int (x + y) :: st) σ := yZ_iff (.iadd, 1, 0, 0, 0, 0, []) rfl (LX_no rfl rfl)
set_option maxRecDepth 100000 in
theorem g150_765 {j : Int32} {c : Nat} : YL L xs i 765 lv (.int j :: .ref c :: st) σ ↔ (c = 1000 ∧ (1 : Nat) = 1 ∧ vp_in j L) ∧ YL L xs i 766 lv (.int (xs j.toNatClampNeg) :: st) σ := yZ_iff (.iaload, 1, 1, 0, 0, 0, []) rfl (LX_no rfl rfl)
set_option maxRecDepth 100000 in
theorem g150_766  : YL L xs i 766 lv st σ ↔ zldR lv 0 (fun x => YL L xs i 767 lv (.ref x :: st) σ) := yZ_iff (.aload_n 0, 1, 0, 0, 0, 0, []) rfl (LX_no rfl rfl)
set_option maxRecDepth 100000 in
theorem g150_767  : YL L xs i 767 lv st σ ↔ zldI lv 3 (fun x => YL L xs i 768 lv (.int x :: st) σ) := yZ_iff (.iload_n 3, 1, 0, 0, 0, 0, []) rfl (LX_no rfl rfl)
set_option maxRecDepth 100000 in
theorem g150_768  : YL L xs i 768 lv st σ ↔ YL L xs i 769 lv (.int 2 :: st) σ := yZ_iff (.iconst 2, 1, 0, 0, 0, 0, []) rfl (LX_no rfl rfl)
set_option maxRecDepth 100000 in
theorem g150_769 {x y : Int32} : YL L xs i 769 lv (.int y :: .int x :: st) σ ↔ YL L xs i 770 lv (.int (x + y) :: st) σ := yZ_iff (.iadd, 1, 0, 0, 0, 0, []) rfl (LX_no rfl rfl)
set_option maxRecDepth 100000 in
theorem g150_770 {j : Int32} {c : Nat} : YL L xs i 770 lv (.int j :: .ref c :: st) σ ↔ (c = 1000 ∧ (1 : Nat) = 1 ∧ vp_in j L) ∧ YL L xs i 771 lv (.int (xs j.toNatClampNeg) :: st) σ := yZ_iff (.iaload, 1, 1, 0, 0, 0, []) rfl (LX_no rfl rfl)
set_option maxRecDepth 100000 in
theorem g150_771  : YL L xs i 771 lv st σ ↔ zldR lv 0 (fun x => YL L xs i 772 lv (.ref x :: st) σ) := yZ_iff (.aload_n 0, 1, 0, 0, 0, 0, []) rfl (LX_no rfl rfl)
set_option maxRecDepth 100000 in
theorem g150_772  : YL L xs i 772 lv st σ ↔ zldI lv 3 (fun x => YL L xs i 773 lv (.int x :: st) σ) := yZ_iff (.iload_n 3, 1, 0, 0, 0, 0, []) rfl (LX_no rfl rfl)
set_option maxRecDepth 100000 in
theorem g150_773  : YL L xs i 773 lv st σ ↔ YL L xs i 774 lv (.int 3 :: st) σ := yZ_iff (.iconst 3, 1, 0, 0, 0, 0, []) rfl (LX_no rfl rfl)
set_option maxRecDepth 100000 in
theorem g150_774 {x y : Int32} : YL L xs i 774 lv (.int y :: .int x :: st) σ ↔ YL L xs i 775 lv (.int (x + y) :: st) σ := yZ_iff (.iadd, 1, 0, 0, 0, 0, []) rfl (LX_no rfl rfl)
set_option maxRecDepth 100000 in
theorem g150_775 {j : Int32} {c : Nat} : YL L xs i 775 lv (.int j :: .ref c :: st) σ ↔ (c = 1000 ∧ (1 : Nat) = 1 ∧ vp_in j L) ∧ YL L xs i 776 lv (.int (xs j.toNatClampNeg) :: st) σ := yZ_iff (.iaload, 1, 1, 0, 0, 0, []) rfl (LX_no rfl rfl)
set_option maxRecDepth 100000 in
theorem g150_776 {v0 v1 v2 : Value} {c : Nat} : YL L xs i 776 lv (v2 :: v1 :: v0 :: .ref c :: st) σ ↔ (zrcv 6 c ∧ zrm st) ∧ ∃ rv σ', yE 8 76 [.ref c, v0, v1, v2] σ rv σ' ∧ YL L xs i 779 lv (rv.toList ++ st) σ' := yZ_iff (.invokevirtual 106, 3, 76, 3, 315, 0, []) rfl (LX_no rfl rfl)
set_option maxRecDepth 100000 in
theorem g150_779  : YL L xs i 779 lv st σ ↔ zldR lv 2 (fun x => YL L xs i 780 lv (.ref x :: st) σ) := yZ_iff (.aload_n 2, 1, 0, 0, 0, 0, []) rfl (LX_no rfl rfl)
set_option maxRecDepth 100000 in
theorem g150_780  : YL L xs i 780 lv st σ ↔ zldR lv 0 (fun x => YL L xs i 781 lv (.ref x :: st) σ) := yZ_iff (.aload_n 0, 1, 0, 0, 0, 0, []) rfl (LX_no rfl rfl)
set_option maxRecDepth 100000 in
theorem g150_781  : YL L xs i 781 lv st σ ↔ zldI lv 3 (fun x => YL L xs i 782 lv (.int x :: st) σ) := yZ_iff (.iload_n 3, 1, 0, 0, 0, 0, []) rfl (LX_no rfl rfl)
set_option maxRecDepth 100000 in
theorem g150_782  : YL L xs i 782 lv st σ ↔ YL L xs i 783 lv (.int 1 :: st) σ := yZ_iff (.iconst 1, 1, 0, 0, 0, 0, []) rfl (LX_no rfl rfl)
set_option maxRecDepth 100000 in
theorem g150_783 {x y : Int32} : YL L xs i 783 lv (.int y :: .int x :: st) σ ↔ YL L xs i 784 lv (.int (x + y) :: st) σ := yZ_iff (.iadd, 1, 0, 0, 0, 0, []) rfl (LX_no rfl rfl)
set_option maxRecDepth 100000 in
theorem g150_784 {j : Int32} {c : Nat} : YL L xs i 784 lv (.int j :: .ref c :: st) σ ↔ (c = 1000 ∧ (1 : Nat) = 1 ∧ vp_in j L) ∧ YL L xs i 785 lv (.int (xs j.toNatClampNeg) :: st) σ := yZ_iff (.iaload, 1, 1, 0, 0, 0, []) rfl (LX_no rfl rfl)
set_option maxRecDepth 100000 in
theorem g150_785  : YL L xs i 785 lv st σ ↔ zldR lv 0 (fun x => YL L xs i 786 lv (.ref x :: st) σ) := yZ_iff (.aload_n 0, 1, 0, 0, 0, 0, []) rfl (LX_no rfl rfl)
set_option maxRecDepth 100000 in
theorem g150_786  : YL L xs i 786 lv st σ ↔ zldI lv 3 (fun x => YL L xs i 787 lv (.int x :: st) σ) := yZ_iff (.iload_n 3, 1, 0, 0, 0, 0, []) rfl (LX_no rfl rfl)
set_option maxRecDepth 100000 in
theorem g150_787  : YL L xs i 787 lv st σ ↔ YL L xs i 788 lv (.int 2 :: st) σ := yZ_iff (.iconst 2, 1, 0, 0, 0, 0, []) rfl (LX_no rfl rfl)
set_option maxRecDepth 100000 in
theorem g150_788 {x y : Int32} : YL L xs i 788 lv (.int y :: .int x :: st) σ ↔ YL L xs i 789 lv (.int (x + y) :: st) σ := yZ_iff (.iadd, 1, 0, 0, 0, 0, []) rfl (LX_no rfl rfl)
set_option maxRecDepth 100000 in
theorem g150_789 {j : Int32} {c : Nat} : YL L xs i 789 lv (.int j :: .ref c :: st) σ ↔ (c = 1000 ∧ (1 : Nat) = 1 ∧ vp_in j L) ∧ YL L xs i 790 lv (.int (xs j.toNatClampNeg) :: st) σ := yZ_iff (.iaload, 1, 1, 0, 0, 0, []) rfl (LX_no rfl rfl)
set_option maxRecDepth 100000 in
theorem g150_790  : YL L xs i 790 lv st σ ↔ zldR lv 0 (fun x => YL L xs i 791 lv (.ref x :: st) σ) := yZ_iff (.aload_n 0, 1, 0, 0, 0, 0, []) rfl (LX_no rfl rfl)
set_option maxRecDepth 100000 in
theorem g150_791  : YL L xs i 791 lv st σ ↔ zldI lv 3 (fun x => YL L xs i 792 lv (.int x :: st) σ) := yZ_iff (.iload_n 3, 1, 0, 0, 0, 0, []) rfl (LX_no rfl rfl)
set_option maxRecDepth 100000 in
theorem g150_792  : YL L xs i 792 lv st σ ↔ YL L xs i 793 lv (.int 3 :: st) σ := yZ_iff (.iconst 3, 1, 0, 0, 0, 0, []) rfl (LX_no rfl rfl)
set_option maxRecDepth 100000 in
theorem g150_793 {x y : Int32} : YL L xs i 793 lv (.int y :: .int x :: st) σ ↔ YL L xs i 794 lv (.int (x + y) :: st) σ := yZ_iff (.iadd, 1, 0, 0, 0, 0, []) rfl (LX_no rfl rfl)
set_option maxRecDepth 100000 in
theorem g150_794 {j : Int32} {c : Nat} : YL L xs i 794 lv (.int j :: .ref c :: st) σ ↔ (c = 1000 ∧ (1 : Nat) = 1 ∧ vp_in j L) ∧ YL L xs i 795 lv (.int (xs j.toNatClampNeg) :: st) σ := yZ_iff (.iaload, 1, 1, 0, 0, 0, []) rfl (LX_no rfl rfl)
set_option maxRecDepth 100000 in
theorem g150_795 {v0 v1 v2 : Value} {c : Nat} : YL L xs i 795 lv (v2 :: v1 :: v0 :: .ref c :: st) σ ↔ (zrcv 7 c ∧ zrm st) ∧ ∃ rv σ', yE 8 139 [.ref c, v0, v1, v2] σ rv σ' ∧ YL L xs i 798 lv (rv.toList ++ st) σ' := yZ_iff (.invokevirtual 109, 3, 139, 3, 316, 0, []) rfl (LX_no rfl rfl)
set_option maxRecDepth 100000 in
theorem g150_798 {x y : Int32} : YL L xs i 798 lv (.int y :: .int x :: st) σ ↔ (x = y → YL L xs i 919 lv st σ) ∧ (¬ x = y → YL L xs i 801 lv st σ) := yZ_iff (.if_icmp .eq 121, 3, 919, 0, 0, 0, []) rfl (LX_no rfl rfl)
set_option maxRecDepth 100000 in
theorem g150_801  : YL L xs i 801 lv st σ ↔ YL L xs i 802 lv (.int 0 :: st) σ := yZ_iff (.iconst 0, 1, 0, 0, 0, 0, []) rfl (LX_no rfl rfl)
set_option maxRecDepth 100000 in
theorem g150_803  : YL L xs i 803 lv st σ ↔ zldR lv 1 (fun x => YL L xs i 804 lv (.ref x :: st) σ) := yZ_iff (.aload_n 1, 1, 0, 0, 0, 0, []) rfl (LX_no rfl rfl)
set_option maxRecDepth 100000 in
theorem g150_804  : YL L xs i 804 lv st σ ↔ zldR lv 0 (fun x => YL L xs i 805 lv (.ref x :: st) σ) := yZ_iff (.aload_n 0, 1, 0, 0, 0, 0, []) rfl (LX_no rfl rfl)
set_option maxRecDepth 100000 in
theorem g150_805  : YL L xs i 805 lv st σ ↔ zldI lv 3 (fun x => YL L xs i 806 lv (.int x :: st) σ) := yZ_iff (.iload_n 3, 1, 0, 0, 0, 0, []) rfl (LX_no rfl rfl)
set_option maxRecDepth 100000 in
theorem g150_806  : YL L xs i 806 lv st σ ↔ YL L xs i 807 lv (.int 1 :: st) σ := yZ_iff (.iconst 1, 1, 0, 0, 0, 0, []) rfl (LX_no rfl rfl)
set_option maxRecDepth 100000 in
theorem g150_807 {x y : Int32} : YL L xs i 807 lv (.int y :: .int x :: st) σ ↔ YL L xs i 808 lv (.int (x + y) :: st) σ := yZ_iff (.iadd, 1, 0, 0, 0, 0, []) rfl (LX_no rfl rfl)
set_option maxRecDepth 100000 in
theorem g150_808 {j : Int32} {c : Nat} : YL L xs i 808 lv (.int j :: .ref c :: st) σ ↔ (c = 1000 ∧ (1 : Nat) = 1 ∧ vp_in j L) ∧ YL L xs i 809 lv (.int (xs j.toNatClampNeg) :: st) σ := yZ_iff (.iaload, 1, 1, 0, 0, 0, []) rfl (LX_no rfl rfl)
set_option maxRecDepth 100000 in
theorem g150_809  : YL L xs i 809 lv st σ ↔ zldR lv 0 (fun x => YL L xs i 810 lv (.ref x :: st) σ) := yZ_iff (.aload_n 0, 1, 0, 0, 0, 0, []) rfl (LX_no rfl rfl)
set_option maxRecDepth 100000 in
theorem g150_810  : YL L xs i 810 lv st σ ↔ zldI lv 3 (fun x => YL L xs i 811 lv (.int x :: st) σ) := yZ_iff (.iload_n 3, 1, 0, 0, 0, 0, []) rfl (LX_no rfl rfl)
set_option maxRecDepth 100000 in
theorem g150_811  : YL L xs i 811 lv st σ ↔ YL L xs i 812 lv (.int 2 :: st) σ := yZ_iff (.iconst 2, 1, 0, 0, 0, 0, []) rfl (LX_no rfl rfl)
set_option maxRecDepth 100000 in
theorem g150_812 {x y : Int32} : YL L xs i 812 lv (.int y :: .int x :: st) σ ↔ YL L xs i 813 lv (.int (x + y) :: st) σ := yZ_iff (.iadd, 1, 0, 0, 0, 0, []) rfl (LX_no rfl rfl)
set_option maxRecDepth 100000 in
theorem g150_813 {j : Int32} {c : Nat} : YL L xs i 813 lv (.int j :: .ref c :: st) σ ↔ (c = 1000 ∧ (1 : Nat) = 1 ∧ vp_in j L) ∧ YL L xs i 814 lv (.int (xs j.toNatClampNeg) :: st) σ := yZ_iff (.iaload, 1, 1, 0, 0, 0, []) rfl (LX_no rfl rfl)
set_option maxRecDepth 100000 in
theorem g150_814 {v0 v1 : Value} {c : Nat} : YL L xs i 814 lv (v1 :: v0 :: .ref c :: st) σ ↔ (zrcv 6 c ∧ zrm st) ∧ ∃ rv σ', yE 8 77 [.ref c, v0, v1] σ rv σ' ∧ YL L xs i 817 lv (rv.toList ++ st) σ' := yZ_iff (.invokevirtual 110, 3, 77, 2, 317, 0, []) rfl (LX_no rfl rfl)
set_option maxRecDepth 100000 in
theorem g150_817  : YL L xs i 817 lv st σ ↔ zldR lv 2 (fun x => YL L xs i 818 lv (.ref x :: st) σ) := yZ_iff (.aload_n 2, 1, 0, 0, 0, 0, []) rfl (LX_no rfl rfl)
set_option maxRecDepth 100000 in
theorem g150_818  : YL L xs i 818 lv st σ ↔ zldR lv 0 (fun x => YL L xs i 819 lv (.ref x :: st) σ) := yZ_iff (.aload_n 0, 1, 0, 0, 0, 0, []) rfl (LX_no rfl rfl)
set_option maxRecDepth 100000 in
theorem g150_819  : YL L xs i 819 lv st σ ↔ zldI lv 3 (fun x => YL L xs i 820 lv (.int x :: st) σ) := yZ_iff (.iload_n 3, 1, 0, 0, 0, 0, []) rfl (LX_no rfl rfl)
set_option maxRecDepth 100000 in
theorem g150_820  : YL L xs i 820 lv st σ ↔ YL L xs i 821 lv (.int 1 :: st) σ := yZ_iff (.iconst 1, 1, 0, 0, 0, 0, []) rfl (LX_no rfl rfl)
set_option maxRecDepth 100000 in
theorem g150_821 {x y : Int32} : YL L xs i 821 lv (.int y :: .int x :: st) σ ↔ YL L xs i 822 lv (.int (x + y) :: st) σ := yZ_iff (.iadd, 1, 0, 0, 0, 0, []) rfl (LX_no rfl rfl)
set_option maxRecDepth 100000 in
theorem g150_822 {j : Int32} {c : Nat} : YL L xs i 822 lv (.int j :: .ref c :: st) σ ↔ (c = 1000 ∧ (1 : Nat) = 1 ∧ vp_in j L) ∧ YL L xs i 823 lv (.int (xs j.toNatClampNeg) :: st) σ := yZ_iff (.iaload, 1, 1, 0, 0, 0, []) rfl (LX_no rfl rfl)
set_option maxRecDepth 100000 in
theorem g150_823  : YL L xs i 823 lv st σ ↔ zldR lv 0 (fun x => YL L xs i 824 lv (.ref x :: st) σ) := yZ_iff (.aload_n 0, 1, 0, 0, 0, 0, []) rfl (LX_no rfl rfl)
set_option maxRecDepth 100000 in
theorem g150_824  : YL L xs i 824 lv st σ ↔ zldI lv 3 (fun x => YL L xs i 825 lv (.int x :: st) σ) := yZ_iff (.iload_n 3, 1, 0, 0, 0, 0, []) rfl (LX_no rfl rfl)
set_option maxRecDepth 100000 in
theorem g150_825  : YL L xs i 825 lv st σ ↔ YL L xs i 826 lv (.int 2 :: st) σ := yZ_iff (.iconst 2, 1, 0, 0, 0, 0, []) rfl (LX_no rfl rfl)
set_option maxRecDepth 100000 in
theorem g150_826 {x y : Int32} : YL L xs i 826 lv (.int y :: .int x :: st) σ ↔ YL L xs i 827 lv (.int (x + y) :: st) σ := yZ_iff (.iadd, 1, 0, 0, 0, 0, []) rfl (LX_no rfl rfl)
set_option maxRecDepth 100000 in
theorem g150_827 {j : Int32} {c : Nat} : YL L xs i 827 lv (.int j :: .ref c :: st) σ ↔ (c = 1000 ∧ (1 : Nat) = 1 ∧ vp_in j L) ∧ YL L xs i 828 lv (.int (xs j.toNatClampNeg) :: st) σ := yZ_iff (.iaload, 1, 1, 0, 0, 0, []) rfl (LX_no rfl rfl)
set_option maxRecDepth 100000 in
theorem g150_828 {v0 v1 : Value} {c : Nat} : YL L xs i 828 lv (v1 :: v0 :: .ref c :: st) σ ↔ (zrcv 7 c ∧ zrm st) ∧ ∃ rv σ', yE 8 140 [.ref c, v0, v1] σ rv σ' ∧ YL L xs i 831 lv (rv.toList ++ st) σ' := yZ_iff (.invokevirtual 113, 3, 140, 2, 318, 0, []) rfl (LX_no rfl rfl)
set_option maxRecDepth 100000 in
theorem g150_831 {x y : Int32} : YL L xs i 831 lv (.int y :: .int x :: st) σ ↔ (x = y → YL L xs i 919 lv st σ) ∧ (¬ x = y → YL L xs i 834 lv st σ) := yZ_iff (.if_icmp .eq 88, 3, 919, 0, 0, 0, []) rfl (LX_no rfl rfl)
set_option maxRecDepth 100000 in
theorem g150_834  : YL L xs i 834 lv st σ ↔ YL L xs i 835 lv (.int 0 :: st) σ := yZ_iff (.iconst 0, 1, 0, 0, 0, 0, []) rfl (LX_no rfl rfl)
set_option maxRecDepth 100000 in
theorem g150_836  : YL L xs i 836 lv st σ ↔ zldR lv 1 (fun x => YL L xs i 837 lv (.ref x :: st) σ) := yZ_iff (.aload_n 1, 1, 0, 0, 0, 0, []) rfl (LX_no rfl rfl)
set_option maxRecDepth 100000 in
theorem g150_837  : YL L xs i 837 lv st σ ↔ zldR lv 0 (fun x => YL L xs i 838 lv (.ref x :: st) σ) := yZ_iff (.aload_n 0, 1, 0, 0, 0, 0, []) rfl (LX_no rfl rfl)
set_option maxRecDepth 100000 in
theorem g150_838  : YL L xs i 838 lv st σ ↔ zldI lv 3 (fun x => YL L xs i 839 lv (.int x :: st) σ) := yZ_iff (.iload_n 3, 1, 0, 0, 0, 0, []) rfl (LX_no rfl rfl)
set_option maxRecDepth 100000 in
theorem g150_839  : YL L xs i 839 lv st σ ↔ YL L xs i 840 lv (.int 1 :: st) σ := yZ_iff (.iconst 1, 1, 0, 0, 0, 0, []) rfl (LX_no rfl rfl)
set_option maxRecDepth 100000 in
theorem g150_840 {x y : Int32} : YL L xs i 840 lv (.int y :: .int x :: st) σ ↔ YL L xs i 841 lv (.int (x + y) :: st) σ := yZ_iff (.iadd, 1, 0, 0, 0, 0, []) rfl (LX_no rfl rfl)
set_option maxRecDepth 100000 in
theorem g150_841 {j : Int32} {c : Nat} : YL L xs i 841 lv (.int j :: .ref c :: st) σ ↔ (c = 1000 ∧ (1 : Nat) = 1 ∧ vp_in j L) ∧ YL L xs i 842 lv (.int (xs j.toNatClampNeg) :: st) σ := yZ_iff (.iaload, 1, 1, 0, 0, 0, []) rfl (LX_no rfl rfl)
set_option maxRecDepth 100000 in
theorem g150_842 {v0 : Value} {c : Nat} : YL L xs i 842 lv (v0 :: .ref c :: st) σ ↔ (zrcv 6 c ∧ zrm st) ∧ ∃ rv σ', yE 8 78 [.ref c, v0] σ rv σ' ∧ YL L xs i 845 lv (rv.toList ++ st) σ' := yZ_iff (.invokevirtual 114, 3, 78, 1, 319, 0, []) rfl (LX_no rfl rfl)
set_option maxRecDepth 100000 in
theorem g150_845  : YL L xs i 845 lv st σ ↔ zldR lv 2 (fun x => YL L xs i 846 lv (.ref x :: st) σ) := yZ_iff (.aload_n 2, 1, 0, 0, 0, 0, []) rfl (LX_no rfl rfl)
set_option maxRecDepth 100000 in
theorem g150_846  : YL L xs i 846 lv st σ ↔ zldR lv 0 (fun x => YL L xs i 847 lv (.ref x :: st) σ) := yZ_iff (.aload_n 0, 1, 0, 0, 0, 0, []) rfl (LX_no rfl rfl)
set_option maxRecDepth 100000 in
theorem g150_847  : YL L xs i 847 lv st σ ↔ zldI lv 3 (fun x => YL L xs i 848 lv (.int x :: st) σ) := yZ_iff (.iload_n 3, 1, 0, 0, 0, 0, []) rfl (LX_no rfl rfl)
set_option maxRecDepth 100000 in
theorem g150_848  : YL L xs i 848 lv st σ ↔ YL L xs i 849 lv (.int 1 :: st) σ := yZ_iff (.iconst 1, 1, 0, 0, 0, 0, []) rfl (LX_no rfl rfl)
set_option maxRecDepth 100000 in
theorem g150_849 {x y : Int32} : YL L xs i 849 lv (.int y :: .int x :: st) σ ↔ YL L xs i 850 lv (.int (x + y) :: st) σ := yZ_iff (.iadd, 1, 0, 0, 0, 0, []) rfl (LX_no rfl rfl)
set_option maxRecDepth 100000 in
theorem g150_850 {j : Int32} {c : Nat} : YL L xs i 850 lv (.int j :: .ref c :: st) σ ↔ (c = 1000 ∧ (1 : Nat) = 1 ∧ vp_in j L) ∧ YL L xs i 851 lv (.int (xs j.toNatClampNeg) :: st) σ := yZ_iff (.iaload, 1, 1, 0, 0, 0, []) rfl (LX_no rfl rfl)
set_option maxRecDepth 100000 in
theorem g150_851 {v0 : Value} {c : Nat} : YL L xs i 851 lv (v0 :: .ref c :: st) σ ↔ (zrcv 7 c ∧ zrm st) ∧ ∃ rv σ', yE 8 142 [.ref c, v0] σ rv σ' ∧ YL L xs i 854 lv (rv.toList ++ st) σ' := yZ_iff (.invokevirtual 117, 3, 142, 1, 320, 0, []) rfl (LX_no rfl rfl)
set_option maxRecDepth 100000 in
theorem g150_854 {x y : Int32} : YL L xs i 854 lv (.int y :: .int x :: st) σ ↔ (x = y → YL L xs i 919 lv st σ) ∧ (¬ x = y → YL L xs i 857 lv st σ) := yZ_iff (.if_icmp .eq 65, 3, 919, 0, 0, 0, []) rfl (LX_no rfl rfl)
set_option maxRecDepth 100000 in
theorem g150_857  : YL L xs i 857 lv st σ ↔ YL L xs i 858 lv (.int 0 :: st) σ := yZ_iff (.iconst 0, 1, 0, 0, 0, 0, []) rfl (LX_no rfl rfl)
set_option maxRecDepth 100000 in
theorem g150_859  : YL L xs i 859 lv st σ ↔ zldR lv 1 (fun x => YL L xs i 860 lv (.ref x :: st) σ) := yZ_iff (.aload_n 1, 1, 0, 0, 0, 0, []) rfl (LX_no rfl rfl)
set_option maxRecDepth 100000 in
theorem g150_860  : YL L xs i 860 lv st σ ↔ zldR lv 0 (fun x => YL L xs i 861 lv (.ref x :: st) σ) := yZ_iff (.aload_n 0, 1, 0, 0, 0, 0, []) rfl (LX_no rfl rfl)
set_option maxRecDepth 100000 in
theorem g150_861  : YL L xs i 861 lv st σ ↔ zldI lv 3 (fun x => YL L xs i 862 lv (.int x :: st) σ) := yZ_iff (.iload_n 3, 1, 0, 0, 0, 0, []) rfl (LX_no rfl rfl)
set_option maxRecDepth 100000 in
theorem g150_862  : YL L xs i 862 lv st σ ↔ YL L xs i 863 lv (.int 1 :: st) σ := yZ_iff (.iconst 1, 1, 0, 0, 0, 0, []) rfl (LX_no rfl rfl)
set_option maxRecDepth 100000 in
theorem g150_863 {x y : Int32} : YL L xs i 863 lv (.int y :: .int x :: st) σ ↔ YL L xs i 864 lv (.int (x + y) :: st) σ := yZ_iff (.iadd, 1, 0, 0, 0, 0, []) rfl (LX_no rfl rfl)
set_option maxRecDepth 100000 in
theorem g150_864 {j : Int32} {c : Nat} : YL L xs i 864 lv (.int j :: .ref c :: st) σ ↔ (c = 1000 ∧ (1 : Nat) = 1 ∧ vp_in j L) ∧ YL L xs i 865 lv (.int (xs j.toNatClampNeg) :: st) σ := yZ_iff (.iaload, 1, 1, 0, 0, 0, []) rfl (LX_no rfl rfl)
set_option maxRecDepth 100000 in
theorem g150_865 {v0 : Value} {c : Nat} : YL L xs i 865 lv (v0 :: .ref c :: st) σ ↔ (zrcv 6 c ∧ zrm st) ∧ ∃ rv σ', yE 8 79 [.ref c, v0] σ rv σ' ∧ YL L xs i 868 lv (rv.toList ++ st) σ' := yZ_iff (.invokevirtual 118, 3, 79, 1, 321, 0, []) rfl (LX_no rfl rfl)
set_option maxRecDepth 100000 in
theorem g150_868  : YL L xs i 868 lv st σ ↔ zldR lv 2 (fun x => YL L xs i 869 lv (.ref x :: st) σ) := yZ_iff (.aload_n 2, 1, 0, 0, 0, 0, []) rfl (LX_no rfl rfl)
set_option maxRecDepth 100000 in
theorem g150_869  : YL L xs i 869 lv st σ ↔ zldR lv 0 (fun x => YL L xs i 870 lv (.ref x :: st) σ) := yZ_iff (.aload_n 0, 1, 0, 0, 0, 0, []) rfl (LX_no rfl rfl)
set_option maxRecDepth 100000 in
theorem g150_870  : YL L xs i 870 lv st σ ↔ zldI lv 3 (fun x => YL L xs i 871 lv (.int x :: st) σ) := yZ_iff (.iload_n 3, 1, 0, 0, 0, 0, []) rfl (LX_no rfl rfl)
set_option maxRecDepth 100000 in
theorem g150_871  : YL L xs i 871 lv st σ ↔ YL L xs i 872 lv (.int 1 :: st) σ := yZ_iff (.iconst 1, 1, 0, 0, 0, 0, []) rfl (LX_no rfl rfl)
set_option maxRecDepth 100000 in
theorem g150_872 {x y : Int32} : YL L xs i 872 lv (.int y :: .int x :: st) σ ↔ YL L xs i 873 lv (.int (x + y) :: st) σ := yZ_iff (.iadd, 1, 0, 0, 0, 0, []) rfl (LX_no rfl rfl)
set_option maxRecDepth 100000 in
theorem g150_873 {j : Int32} {c : Nat} : YL L xs i 873 lv (.int j :: .ref c :: st) σ ↔ (c = 1000 ∧ (1 : Nat) = 1 ∧ vp_in j L) ∧ YL L xs i 874 lv (.int (xs j.toNatClampNeg) :: st) σ := yZ_iff (.iaload, 1, 1, 0, 0, 0, []) rfl (LX_no rfl rfl)
set_option maxRecDepth 100000 in
theorem g150_874 {v0 : Value} {c : Nat} : YL L xs i 874 lv (v0 :: .ref c :: st) σ ↔ (zrcv 7 c ∧ zrm st) ∧ ∃ rv σ', yE 8 143 [.ref c, v0] σ rv σ' ∧ YL L xs i 877 lv (rv.toList ++ st) σ' := yZ_iff (.invokevirtual 121, 3, 143, 1, 322, 0, []) rfl (LX_no rfl rfl)
set_option maxRecDepth 100000 in
theorem g150_877 {x y : Int32} : YL L xs i 877 lv (.int y :: .int x :: st) σ ↔ (x = y → YL L xs i 919 lv st σ) ∧ (¬ x = y → YL L xs i 880 lv st σ) := yZ_iff (.if_icmp .eq 42, 3, 919, 0, 0, 0, []) rfl (LX_no rfl rfl)
set_option maxRecDepth 100000 in
theorem g150_880  : YL L xs i 880 lv st σ ↔ YL L xs i 881 lv (.int 0 :: st) σ := yZ_iff (.iconst 0, 1, 0, 0, 0, 0, []) rfl (LX_no rfl rfl)
set_option maxRecDepth 100000 in
theorem g150_882  : YL L xs i 882 lv st σ ↔ zldR lv 1 (fun x => YL L xs i 883 lv (.ref x :: st) σ) := yZ_iff (.aload_n 1, 1, 0, 0, 0, 0, []) rfl (LX_no rfl rfl)
set_option maxRecDepth 100000 in
theorem g150_883  : YL L xs i 883 lv st σ ↔ zldR lv 0 (fun x => YL L xs i 884 lv (.ref x :: st) σ) := yZ_iff (.aload_n 0, 1, 0, 0, 0, 0, []) rfl (LX_no rfl rfl)
set_option maxRecDepth 100000 in
theorem g150_884  : YL L xs i 884 lv st σ ↔ zldI lv 3 (fun x => YL L xs i 885 lv (.int x :: st) σ) := yZ_iff (.iload_n 3, 1, 0, 0, 0, 0, []) rfl (LX_no rfl rfl)
set_option maxRecDepth 100000 in
theorem g150_885  : YL L xs i 885 lv st σ ↔ YL L xs i 886 lv (.int 1 :: st) σ := yZ_iff (.iconst 1, 1, 0, 0, 0, 0, []) rfl (LX_no rfl rfl)
set_option maxRecDepth 100000 in
theorem g150_886 {x y : Int32} : YL L xs i 886 lv (.int y :: .int x :: st) σ ↔ YL L xs i 887 lv (.int (x + y) :: st) σ := yZ_iff (.iadd, 1, 0, 0, 0, 0, []) rfl (LX_no rfl rfl)
set_option maxRecDepth 100000 in
theorem g150_887 {j : Int32} {c : Nat} : YL L xs i 887 lv (.int j :: .ref c :: st) σ ↔ (c = 1000 ∧ (1 : Nat) = 1 ∧ vp_in j L) ∧ YL L xs i 888 lv (.int (xs j.toNatClampNeg) :: st) σ := yZ_iff (.iaload, 1, 1, 0, 0, 0, []) rfl (LX_no rfl rfl)
set_option maxRecDepth 100000 in
theorem g150_888 {v0 : Value} {c : Nat} : YL L xs i 888 lv (v0 :: .ref c :: st) σ ↔ (zrcv 6 c ∧ zrm st) ∧ ∃ rv σ', yE 8 80 [.ref c, v0] σ rv σ' ∧ YL L xs i 891 lv (rv.toList ++ st) σ' := yZ_iff (.invokevirtual 122, 3, 80, 1, 323, 0, []) rfl (LX_no rfl rfl)
set_option maxRecDepth 100000 in
theorem g150_891  : YL L xs i 891 lv st σ ↔ zldR lv 2 (fun x => YL L xs i 892 lv (.ref x :: st) σ) := yZ_iff (.aload_n 2, 1, 0, 0, 0, 0, []) rfl (LX_no rfl rfl)
set_option maxRecDepth 100000 in
theorem g150_892  : YL L xs i 892 lv st σ ↔ zldR lv 0 (fun x => YL L xs i 893 lv (.ref x :: st) σ) := yZ_iff (.aload_n 0, 1, 0, 0, 0, 0, []) rfl (LX_no rfl rfl)
set_option maxRecDepth 100000 in
theorem g150_893  : YL L xs i 893 lv st σ ↔ zldI lv 3 (fun x => YL L xs i 894 lv (.int x :: st) σ) := yZ_iff (.iload_n 3, 1, 0, 0, 0, 0, []) rfl (LX_no rfl rfl)
set_option maxRecDepth 100000 in
theorem g150_894  : YL L xs i 894 lv st σ ↔ YL L xs i 895 lv (.int 1 :: st) σ := yZ_iff (.iconst 1, 1, 0, 0, 0, 0, []) rfl (LX_no rfl rfl)
set_option maxRecDepth 100000 in
theorem g150_895 {x y : Int32} : YL L xs i 895 lv (.int y :: .int x :: st) σ ↔ YL L xs i 896 lv (.int (x + y) :: st) σ := yZ_iff (.iadd, 1, 0, 0, 0, 0, []) rfl (LX_no rfl rfl)
set_option maxRecDepth 100000 in
theorem g150_896 {j : Int32} {c : Nat} : YL L xs i 896 lv (.int j :: .ref c :: st) σ ↔ (c = 1000 ∧ (1 : Nat) = 1 ∧ vp_in j L) ∧ YL L xs i 897 lv (.int (xs j.toNatClampNeg) :: st) σ := yZ_iff (.iaload, 1, 1, 0, 0, 0, []) rfl (LX_no rfl rfl)
set_option maxRecDepth 100000 in
theorem g150_897 {v0 : Value} {c : Nat} : YL L xs i 897 lv (v0 :: .ref c :: st) σ ↔ (zrcv 7 c ∧ zrm st) ∧ ∃ rv σ', yE 8 144 [.ref c, v0] σ rv σ' ∧ YL L xs i 900 lv (rv.toList ++ st) σ' := yZ_iff (.invokevirtual 125, 3, 144, 1, 324, 0, []) rfl (LX_no rfl rfl)
set_option maxRecDepth 100000 in
theorem g150_900 {x y : Int32} : YL L xs i 900 lv (.int y :: .int x :: st) σ ↔ (x = y → YL L xs i 919 lv st σ) ∧ (¬ x = y → YL L xs i 903 lv st σ) := yZ_iff (.if_icmp .eq 19, 3, 919, 0, 0, 0, []) rfl (LX_no rfl rfl)
set_option maxRecDepth 100000 in
theorem g150_903  : YL L xs i 903 lv st σ ↔ YL L xs i 904 lv (.int 0 :: st) σ := yZ_iff (.iconst 0, 1, 0, 0, 0, 0, []) rfl (LX_no rfl rfl)
set_option maxRecDepth 100000 in
theorem g150_905  : YL L xs i 905 lv st σ ↔ zldR lv 1 (fun x => YL L xs i 906 lv (.ref x :: st) σ) := yZ_iff (.aload_n 1, 1, 0, 0, 0, 0, []) rfl (LX_no rfl rfl)
set_option maxRecDepth 100000 in
theorem g150_906 {c : Nat} : YL L xs i 906 lv (.ref c :: st) σ ↔ (zrcv 6 c ∧ zrm st) ∧ ∃ rv σ', yE 8 81 [.ref c] σ rv σ' ∧ YL L xs i 909 lv (rv.toList ++ st) σ' := yZ_iff (.invokevirtual 126, 3, 81, 0, 325, 0, []) rfl (LX_no rfl rfl)
set_option maxRecDepth 100000 in
theorem g150_909  : YL L xs i 909 lv st σ ↔ zldR lv 2 (fun x => YL L xs i 910 lv (.ref x :: st) σ) := yZ_iff (.aload_n 2, 1, 0, 0, 0, 0, []) rfl (LX_no rfl rfl)
set_option maxRecDepth 100000 in
theorem g150_910 {c : Nat} : YL L xs i 910 lv (.ref c :: st) σ ↔ (zrcv 7 c ∧ zrm st) ∧ ∃ rv σ', yE 8 145 [.ref c] σ rv σ' ∧ YL L xs i 913 lv (rv.toList ++ st) σ' := yZ_iff (.invokevirtual 130, 3, 145, 0, 326, 0, []) rfl (LX_no rfl rfl)
set_option maxRecDepth 100000 in
theorem g150_913 {x y : Int64} : YL L xs i 913 lv (.long y :: .long x :: st) σ ↔ YL L xs i 914 lv (.int (lg_cmp x y) :: st) σ := yZ_iff (.lcmp, 1, 0, 0, 0, 0, []) rfl (LX_no rfl rfl)
set_option maxRecDepth 100000 in
theorem g150_914 {x : Int32} : YL L xs i 914 lv (.int x :: st) σ ↔ (x = 0 → YL L xs i 919 lv st σ) ∧ (¬ x = 0 → YL L xs i 917 lv st σ) := yZ_iff (.ifCond .eq 5, 3, 919, 0, 0, 0, []) rfl (LX_no rfl rfl)
set_option maxRecDepth 100000 in
theorem g150_917  : YL L xs i 917 lv st σ ↔ YL L xs i 918 lv (.int 0 :: st) σ := yZ_iff (.iconst 0, 1, 0, 0, 0, 0, []) rfl (LX_no rfl rfl)
set_option maxRecDepth 100000 in
theorem g150_919  : YL L xs i 919 lv st σ ↔ zldI lv 3 (fun x => YL L xs i 922 (zs1 3 (.int (x + 5)) lv) st σ) := yZ_iff (.iinc 3 5, 3, 0, 0, 0, 0, []) rfl (LX_no rfl rfl)
set_option maxRecDepth 100000 in
theorem g150_922  : YL L xs i 922 lv st σ ↔ YL L xs i 18 lv st σ := yZ_iff (.goto (-904), 3, 18, 0, 0, 0, []) rfl (LX_no rfl rfl)
end GL
