/-! ===== a machine of mine over 82 cells: the law's and the class's instructions as predicate transformers ===== -/
abbrev zSt : Type := (Nat → Nat → Int32) × (Nat → Nat → Int64) × (Nat × Nat)
abbrev zLv : Type := List (Nat × Value)
abbrev zKc : Type := Nat → zLv → List Value → zSt → Prop
abbrev zEr : Type := Nat → List Value → zSt → Option Value → zSt → Prop
abbrev zIn : Type := Instr × Nat × Nat × Nat × Nat × Int × List (Int32 × Nat)
abbrev zSc : Type := Nat × Nat × (Nat → Int32)
/-- the cells: kind (0..7 an object of that class; 100 int, 101 byte, 102 boolean, 103 long, 104 Now, 105 long[] arrays), length, references -/
def zKt : List Nat := [6, 4, 101, 100, 5, 100, 100, 100, 100, 100, 100, 100, 100, 100, 5, 100, 100, 100, 100, 100, 100, 100, 100, 100, 2, 100, 100, 100, 100, 100, 100, 2, 100, 100, 100, 100, 100, 100, 2, 100, 100, 100, 100, 100, 100, 104, 102, 0, 100, 100, 100, 102, 105, 103, 103, 103, 103, 103, 103, 103, 1, 100, 3, 100, 7, 100, 102, 100, 100, 100, 100, 100, 100, 100, 100, 100, 100, 100, 100, 100, 103, 103]
def zK (c : Nat) : Nat := zKt.getD c 999
def zLt : List Nat := [10, 7, 300, 5, 12, 4, 4, 4, 8, 8, 8, 8, 8, 8, 12, 4, 4, 4, 8, 8, 8, 8, 8, 8, 10, 8, 8, 8, 4, 20, 60, 10, 8, 8, 8, 4, 20, 60, 10, 8, 8, 8, 4, 20, 60, 2, 2, 7, 3, 3, 3, 3, 7, 6, 6, 6, 6, 6, 6, 6, 3, 8, 1, 8, 28, 300, 2, 4, 4, 4, 40, 16, 3, 3, 3, 300, 12, 40, 16, 8, 12, 12]
def zLn (c : Nat) : Nat := zLt.getD c 0
def zRt : List (List Nat) := [[1, 4, 14, 24, 45, 46, 47, 60, 62], [2, 0, 0, 0, 0, 0, 3], [], [], [0, 5, 6, 7, 0, 8, 9, 10, 11, 12, 0, 13], [], [], [], [], [], [], [], [], [], [0, 15, 16, 17, 0, 18, 19, 20, 21, 22, 0, 23], [], [], [], [], [], [], [], [], [], [0, 0, 0, 25, 26, 27, 28, 29, 0, 30], [], [], [], [], [], [], [0, 0, 0, 32, 33, 34, 35, 36, 0, 37], [], [], [], [], [], [], [0, 0, 0, 39, 40, 41, 42, 43, 0, 44], [], [], [], [], [], [], [31, 38], [], [48, 49, 50, 51, 52], [], [], [], [], [53, 54, 55, 56, 57, 58, 59], [], [], [], [], [], [], [], [0, 0, 61], [], [63], [], [65, 66, 0, 67, 68, 69, 0, 70, 0, 71, 72, 73, 74, 0, 75, 0, 0, 0, 0, 0, 76, 0, 77, 0, 78, 79, 80, 81], [], [], [], [], [], [], [], [], [], [], [], [], [], [], [], [], []]
def zR (c k : Nat) : Nat := (zRt.getD c []).getD k 0
def zTt : List (List Nat) := [[2, 2, 2, 2, 2, 1, 1], [0, 0, 2], [0, 0, 0, 2, 2, 2, 2, 2, 0, 2], [2], [2, 0, 0, 0, 0, 0, 2], [0, 2, 2, 2, 0, 2, 2, 2, 2, 2, 0, 2], [2, 2, 2, 2, 2, 2, 2, 2, 2, 1], [2, 2, 0, 2, 2, 2, 0, 2, 0, 2, 2, 2, 2, 0, 2, 0, 1, 0, 0, 0, 2, 0, 2, 0, 2, 2, 2, 2]]
/-- the kind of a field: 0 int, 1 long, 2 a reference -/
def zT (ci k : Nat) : Nat := (zTt.getD ci []).getD k 9
def zrf (σ : zSt) (c k : Nat) : Nat := if c = 0 then (if k = 1 then σ.2.2.1 else if k = 2 then σ.2.2.2 else zR c k) else zR c k
def zfv (σ : zSt) (c k : Nat) : Value := match zT (zK c) k with
  | 0 => .int (σ.1 c k)
  | 1 => .long (σ.2.1 c k)
  | _ => .ref (zrf σ c k)
def zwA (σ : zSt) (c : Nat) (f : Nat → Int32) : zSt := (fun c' => if c' = c then f else σ.1 c', σ.2)
def zwI (σ : zSt) (c k : Nat) (v : Int32) : zSt := zwA σ c (upd (σ.1 c) k v)
def zwL (σ : zSt) (c : Nat) (f : Nat → Int64) : zSt := (σ.1, fun c' => if c' = c then f else σ.2.1 c', σ.2.2)
def zwJ (σ : zSt) (c k : Nat) (v : Int64) : zSt := zwL σ c (vp_updL (σ.2.1 c) k v)
def zwR (σ : zSt) (k v : Nat) : zSt := (σ.1, σ.2.1, if k = 1 then (v, σ.2.2.2) else (σ.2.2.1, v))
/-! locals -/
def zlk : zLv → Nat → Option Value
  | [], _ => none
  | q :: l, i => if q.1 = i then some q.2 else zlk l i
def zldI (lv : zLv) (i : Nat) (F : Int32 → Prop) : Prop := match zlk lv i with
  | some (.int x) => F x
  | _ => False
def zldJ (lv : zLv) (i : Nat) (F : Int64 → Prop) : Prop := match zlk lv i with
  | some (.long x) => F x
  | _ => False
def zldR (lv : zLv) (i : Nat) (F : Nat → Prop) : Prop := match zlk lv i with
  | some (.ref x) => F x
  | _ => False
/-- what a store of one word at i takes away from the rest -/
def zc1 (i : Nat) : zLv → zLv
  | [] => []
  | q :: l => if q.1 = i then zc1 i l else if q.1 + 1 = i ∧ q.2.category = 2 then zc1 i l else q :: zc1 i l
def zs1 (i : Nat) (v : Value) : zLv → zLv
  | [] => [(i, v)]
  | q :: l => if q.1 = i then (i, v) :: zc1 i l else if q.1 + 1 = i ∧ q.2.category = 2 then zs1 i v l else q :: zs1 i v l
def zc2 (i : Nat) : zLv → zLv
  | [] => []
  | q :: l => if q.1 = i then zc2 i l else if q.1 = i + 1 then zc2 i l else if q.1 + 1 = i ∧ q.2.category = 2 then zc2 i l else q :: zc2 i l
def zs2 (i : Nat) (v : Value) : zLv → zLv
  | [] => [(i, v)]
  | q :: l => if q.1 = i then (i, v) :: zc2 i l else if q.1 = i + 1 then zs2 i v l else if q.1 + 1 = i ∧ q.2.category = 2 then zs2 i v l else q :: zs2 i v l
/-! the stack -/
def zpI (st : List Value) (F : Int32 → List Value → Prop) : Prop := match st with
  | .int x :: r => F x r
  | _ => False
def zpJ (st : List Value) (F : Int64 → List Value → Prop) : Prop := match st with
  | .long x :: r => F x r
  | _ => False
def zpR (st : List Value) (F : Nat → List Value → Prop) : Prop := match st with
  | .ref x :: r => F x r
  | _ => False
def zpN (st : List Value) (F : Prop) : Prop := match st with
  | [] => F
  | _ => False
def zpop : Nat → List Value → List Value → (List Value → List Value → Prop) → Prop
  | 0, acc, st, F => F acc st
  | n + 1, acc, v :: st, F => zpop n (v :: acc) st F
  | _ + 1, _, [], _ => False
def zdup (st : List Value) (F : List Value → Prop) : Prop := match st with
  | .int x :: r => F (.int x :: .int x :: r)
  | .ref x :: r => F (.ref x :: .ref x :: r)
  | _ => False
def zdup2 (st : List Value) (F : List Value → Prop) : Prop := match st with
  | .int x :: .ref y :: r => F (.int x :: .ref y :: .int x :: .ref y :: r)
  | .long x :: r => F (.long x :: .long x :: r)
  | _ => False
def zbr (c : Jvm.ClassFile.Cond) (x y : Int32) (a b : Prop) : Prop := match c with
  | .eq => (x = y → a) ∧ (¬ x = y → b)
  | .ne => (¬ x = y → a) ∧ (x = y → b)
  | .lt => (x < y → a) ∧ (¬ x < y → b)
  | .ge => (y ≤ x → a) ∧ (¬ y ≤ x → b)
  | .gt => (y < x → a) ∧ (¬ y < x → b)
  | .le => (x ≤ y → a) ∧ (¬ x ≤ y → b)
def zsw (x : Int32) (F : Nat → Prop) (d : Nat) : List (Int32 × Nat) → Prop
  | [] => F d
  | q :: l => (x = q.1 → F q.2) ∧ (¬ x = q.1 → zsw x F d l)
def zrm (r : List Value) : Prop := (r.map fun v => v.category).sum ≤ 8
def zrcv (k c : Nat) : Prop := if k = 99 then 2000 ≤ c ∧ c < 2003 else zK c = k
def zex (E : zEr) (SC : zSc) (Q : Option Value → zSt → Prop) (K : zKc) (w : zIn) (pc : Nat) (lv : zLv) (st : List Value) (σ : zSt) : Prop :=
  match w with
  | (i, _, a, b, _, v, ts) => match i with
    | .iconst z => K (pc + 1) lv (.int (Int32.ofInt z) :: st) σ
    | .bipush z => K (pc + 2) lv (.int (Int8.ofInt z).toInt32 :: st) σ
    | .sipush z => K (pc + 3) lv (.int (Int16.ofInt z).toInt32 :: st) σ
    | .lconst z => K (pc + 1) lv (.long (Int64.ofNat (z : Nat)) :: st) σ
    | .ldc _ => match a with
      | 0 => K (pc + 2) lv (.int (Int32.ofInt v) :: st) σ
      | _ => K (pc + 2) lv (.ref (2000 + b) :: st) σ
    | .ldc_w _ => K (pc + 3) lv (.int (Int32.ofInt v) :: st) σ
    | .ldc2_w _ => K (pc + 3) lv (.long (Int64.ofInt v) :: st) σ
    | .iload_n z => zldI lv z (fun x => K (pc + 1) lv (.int x :: st) σ)
    | .iload z => zldI lv z (fun x => K (pc + 2) lv (.int x :: st) σ)
    | .lload_n z => zldJ lv z (fun x => K (pc + 1) lv (.long x :: st) σ)
    | .lload z => zldJ lv z (fun x => K (pc + 2) lv (.long x :: st) σ)
    | .aload_n z => zldR lv z (fun x => K (pc + 1) lv (.ref x :: st) σ)
    | .aload z => zldR lv z (fun x => K (pc + 2) lv (.ref x :: st) σ)
    | .istore_n z => zpI st (fun x r => K (pc + 1) (zs1 z (.int x) lv) r σ)
    | .istore z => zpI st (fun x r => K (pc + 2) (zs1 z (.int x) lv) r σ)
    | .lstore_n z => zpJ st (fun x r => K (pc + 1) (zs2 z (.long x) lv) r σ)
    | .lstore z => zpJ st (fun x r => K (pc + 2) (zs2 z (.long x) lv) r σ)
    | .astore_n z => zpR st (fun x r => K (pc + 1) (zs1 z (.ref x) lv) r σ)
    | .astore z => zpR st (fun x r => K (pc + 2) (zs1 z (.ref x) lv) r σ)
    | .iinc z d => zldI lv z (fun x => K (pc + 3) (zs1 z (.int (x + Int32.ofInt d)) lv) st σ)
    | .iadd => zpI st (fun y r => zpI r (fun x r => K (pc + 1) lv (.int (x + y) :: r) σ))
    | .isub => zpI st (fun y r => zpI r (fun x r => K (pc + 1) lv (.int (x - y) :: r) σ))
    | .imul => zpI st (fun y r => zpI r (fun x r => K (pc + 1) lv (.int (x * y) :: r) σ))
    | .iand => zpI st (fun y r => zpI r (fun x r => K (pc + 1) lv (.int (x &&& y) :: r) σ))
    | .ior => zpI st (fun y r => zpI r (fun x r => K (pc + 1) lv (.int (x ||| y) :: r) σ))
    | .ixor => zpI st (fun y r => zpI r (fun x r => K (pc + 1) lv (.int (x ^^^ y) :: r) σ))
    | .idiv => zpI st (fun y r => zpI r (fun x r => (¬ y = 0) ∧ K (pc + 1) lv (.int (x / y) :: r) σ))
    | .irem => zpI st (fun y r => zpI r (fun x r => (¬ y = 0) ∧ K (pc + 1) lv (.int (x - x / y * y) :: r) σ))
    | .ishl => zpI st (fun y r => zpI r (fun x r => K (pc + 1) lv (.int (x <<< (y &&& 31)) :: r) σ))
    | .ishr => zpI st (fun y r => zpI r (fun x r => K (pc + 1) lv (.int (x >>> (y &&& 31)) :: r) σ))
    | .iushr => zpI st (fun y r => zpI r (fun x r => K (pc + 1) lv (.int (x.toUInt32 >>> (y.toUInt32 &&& Int32.toUInt32 31)).toInt32 :: r) σ))
    | .ladd => zpJ st (fun y r => zpJ r (fun x r => K (pc + 1) lv (.long (x + y) :: r) σ))
    | .lsub => zpJ st (fun y r => zpJ r (fun x r => K (pc + 1) lv (.long (x - y) :: r) σ))
    | .lmul => zpJ st (fun y r => zpJ r (fun x r => K (pc + 1) lv (.long (x * y) :: r) σ))
    | .land => zpJ st (fun y r => zpJ r (fun x r => K (pc + 1) lv (.long (x &&& y) :: r) σ))
    | .lor => zpJ st (fun y r => zpJ r (fun x r => K (pc + 1) lv (.long (x ||| y) :: r) σ))
    | .ldiv => zpJ st (fun y r => zpJ r (fun x r => (¬ y = 0) ∧ K (pc + 1) lv (.long (x / y) :: r) σ))
    | .lrem => zpJ st (fun y r => zpJ r (fun x r => (¬ y = 0) ∧ K (pc + 1) lv (.long (x - x / y * y) :: r) σ))
    | .lshl => zpI st (fun y r => zpJ r (fun x r => K (pc + 1) lv (.long (x <<< (y.toInt64 &&& 63)) :: r) σ))
    | .lshr => zpI st (fun y r => zpJ r (fun x r => K (pc + 1) lv (.long (x >>> (y.toInt64 &&& 63)) :: r) σ))
    | .lushr => zpI st (fun y r => zpJ r (fun x r => K (pc + 1) lv (.long (x.toUInt64 >>> (y.toInt64.toUInt64 &&& Int64.toUInt64 63)).toInt64 :: r) σ))
    | .lcmp => zpJ st (fun y r => zpJ r (fun x r => K (pc + 1) lv (.int (lg_cmp x y) :: r) σ))
    | .i2l => zpI st (fun x r => K (pc + 1) lv (.long x.toInt64 :: r) σ)
    | .l2i => zpJ st (fun x r => K (pc + 1) lv (.int x.toInt32 :: r) σ)
    | .i2b => zpI st (fun x r => K (pc + 1) lv (.int x.toInt8.toInt32 :: r) σ)
    | .dup => zdup st (fun r => K (pc + 1) lv r σ)
    | .dup2 => zdup2 st (fun r => K (pc + 1) lv r σ)
    | .goto _ => K a lv st σ
    | .ifCond c _ => zpI st (fun x r => zbr c x 0 (K a lv r σ) (K (pc + 3) lv r σ))
    | .if_icmp c _ => zpI st (fun y r => zpI r (fun x r => zbr c x y (K a lv r σ) (K (pc + 3) lv r σ)))
    | .tableswitch _ _ _ _ => zpI st (fun x r => zsw x (fun t => K t lv r σ) a ts)
    | .lookupswitch _ _ => zpI st (fun x r => zsw x (fun t => K t lv r σ) a ts)
    | .getfield _ => zpR st (fun c r => zK c = a ∧ K (pc + 3) lv (zfv σ c b :: r) σ)
    | .putfield _ => match zT a b with
      | 0 => zpI st (fun x r => zpR r (fun c r => zK c = a ∧ K (pc + 3) lv r (zwI σ c b x)))
      | 1 => zpJ st (fun x r => zpR r (fun c r => zK c = a ∧ K (pc + 3) lv r (zwJ σ c b x)))
      | _ => zpR st (fun x r => zpR r (fun c r => (c = 0 ∧ a = 6) ∧ K (pc + 3) lv r (zwR σ b x)))
    | .iaload => match a with
      | 0 => zpI st (fun j r => zpR r (fun c r => (zK c = 100 ∧ vp_in j (zLn c)) ∧ K (pc + 1) lv (.int (σ.1 c j.toNatClampNeg) :: r) σ))
      | _ => zpI st (fun j r => zpR r (fun c r => (c = 1000 ∧ SC.1 = 1 ∧ vp_in j SC.2.1) ∧ K (pc + 1) lv (.int (SC.2.2 j.toNatClampNeg) :: r) σ))
    | .baload => zpI st (fun j r => zpR r (fun c r => ((zK c = 101 ∨ zK c = 102) ∧ vp_in j (zLn c)) ∧ K (pc + 1) lv (.int (σ.1 c j.toNatClampNeg) :: r) σ))
    | .laload => zpI st (fun j r => zpR r (fun c r => (zK c = 103 ∧ vp_in j (zLn c)) ∧ K (pc + 1) lv (.long (σ.2.1 c j.toNatClampNeg) :: r) σ))
    | .aaload => zpI st (fun j r => zpR r (fun c r => ((zK c = 104 ∨ zK c = 105) ∧ vp_in j (zLn c)) ∧ K (pc + 1) lv (.ref (zR c j.toNatClampNeg) :: r) σ))
    | .iastore => zpI st (fun x r => zpI r (fun j r => zpR r (fun c r => (zK c = 100 ∧ vp_in j (zLn c)) ∧ K (pc + 1) lv r (zwI σ c j.toNatClampNeg x))))
    | .bastore => match a with
      | 0 => zpI st (fun x r => zpI r (fun j r => zpR r (fun c r => (zK c = 101 ∧ vp_in j (zLn c)) ∧ K (pc + 1) lv r (zwI σ c j.toNatClampNeg (vp_nar .byte x)))))
      | _ => zpI st (fun x r => zpI r (fun j r => zpR r (fun c r => (zK c = 102 ∧ vp_in j (zLn c)) ∧ K (pc + 1) lv r (zwI σ c j.toNatClampNeg (vp_nar .boolean x)))))
    | .lastore => zpJ st (fun x r => zpI r (fun j r => zpR r (fun c r => (zK c = 103 ∧ vp_in j (zLn c)) ∧ K (pc + 1) lv r (zwJ σ c j.toNatClampNeg x))))
    | .arraylength => match a with
      | 0 => zpR st (fun c r => zK c = 100 ∧ K (pc + 1) lv (.int (Int32.ofNat (zLn c)) :: r) σ)
      | _ => zpR st (fun c r => (c = 1000 ∧ SC.1 = 1) ∧ K (pc + 1) lv (.int (Int32.ofNat SC.2.1) :: r) σ)
    | .invokevirtual _ => zpop b [] st (fun as r => zpR r (fun c r => (zrcv (mK a) c ∧ zrm r) ∧ ∃ rv σ', E a (.ref c :: as) σ rv σ' ∧ K (pc + 3) lv (rv.toList ++ r) σ'))
    | .invokestatic _ => bif Nat.beq a 900 then zpI st (fun n r => zpI r (fun dp r => zpR r (fun c1 r => zpI r (fun sp r => zpR r (fun c0 r => (zK c0 = 100 ∧ zK c1 = 100 ∧ r = [] ∧ (¬ sp < 0) ∧ (¬ dp < 0) ∧ (¬ n < 0) ∧ sp.toNatClampNeg + n.toNatClampNeg ≤ zLn c0 ∧ dp.toNatClampNeg + n.toNatClampNeg ≤ zLn c1) ∧ K (pc + 3) lv r (zwA σ c1 (va_cpy (σ.1 c0) (σ.1 c1) sp.toNatClampNeg dp.toNatClampNeg n.toNatClampNeg)))))))
      else bif Nat.beq a 901 then zpI st (fun y r => zpI r (fun x r => zrm r ∧ K (pc + 3) lv (.int (if y < x then y else x) :: r) σ))
      else bif Nat.beq a 902 then zpI st (fun y r => zpI r (fun x r => zrm r ∧ K (pc + 3) lv (.int (if x < y then y else x) :: r) σ))
      else bif Nat.beq a 903 then zpJ st (fun y r => zpJ r (fun x r => zrm r ∧ K (pc + 3) lv (.long (if y < x then x else y) :: r) σ))
      else zpop b [] st (fun as r => zrm r ∧ ∃ rv σ', E a as σ rv σ' ∧ K (pc + 3) lv (rv.toList ++ r) σ')
    | .ireturn => match a with
      | 0 => zpI st (fun x r => zpN r (Q (some (.int x)) σ))
      | _ => zpI st (fun x r => zpN r ((x = 0 ∨ x = 1) ∧ Q (some (.int x)) σ))
    | .lreturn => zpJ st (fun x r => zpN r (Q (some (.long x)) σ))
    | .return_ => zpN st (Q none σ)
    | _ => False
def zfind : List (Nat × zIn) → Nat → Option zIn
  | [], _ => none
  | q :: l, i => bif Nat.beq q.1 i then some q.2 else zfind l i
theorem zfind_mem : ∀ {l : List (Nat × zIn)} {i : Nat} {x : zIn}, zfind l i = some x → (i, x) ∈ l
  | [], _, _, h => by cases h
  | q :: l, i, x, h => by
    unfold zfind at h
    cases hq : Nat.beq q.1 i with
    | true =>
      rw [hq] at h
      have e := Nat.eq_of_beq_eq_true hq
      cases h
      rw [← e]
      exact List.mem_cons_self
    | false =>
      rw [hq] at h
      exact List.mem_cons_of_mem _ (zfind_mem h)
