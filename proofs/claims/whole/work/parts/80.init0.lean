theorem tm_5 : Jvm.Cond.initialized "java/util/Arrays" ∈ ztb := zin (List.mem_append_right _ (List.mem_of_getElem? (i := 5) (by decide +kernel))) rfl
theorem tm_23 : Jvm.Cond.instanceMethod ({ cls := "java/lang/Object", name := "<init>", desc := "()V" } : Jvm.MethodName) ∈ ztb := zin (List.mem_append_right _ (List.mem_of_getElem? (i := 23) (by decide +kernel))) rfl
theorem tm_24 : Jvm.Cond.code ({ cls := "java/lang/Object", name := "<init>", desc := "()V" } : Jvm.MethodName) object_method_1_code (1 : Nat) (Option.none : Option Jvm.ClassFile.FieldType) ∈ ztb := zin (List.mem_append_right _ (List.mem_of_getElem? (i := 24) (by decide +kernel))) rfl
theorem tm_29 : Jvm.Cond.code ({ cls := "SleeveSlips$Text", name := "<init>", desc := "()V" } : Jvm.MethodName) prog_6_method_1_code (1 : Nat) (Option.none : Option Jvm.ClassFile.FieldType) ∈ ztb := zin (List.mem_append_right _ (List.mem_of_getElem? (i := 29) (by decide +kernel))) rfl
theorem tm_30 : Jvm.Cond.methodLink "SleeveSlips$Text" (3 : Nat) ({ cls := "java/lang/Object", name := "<init>", desc := "()V" } : Jvm.MethodName) ∈ ztb := zin (List.mem_append_right _ (List.mem_of_getElem? (i := 30) (by decide +kernel))) rfl
theorem tm_31 : Jvm.Cond.fieldLink "SleeveSlips$Text" (9 : Nat) "SleeveSlips$Text" "bytes" "[B" ∈ ztb := zin (List.mem_append_right _ (List.mem_of_getElem? (i := 31) (by decide +kernel))) rfl
theorem tm_38 : Jvm.Cond.fieldLink "SleeveSlips$Text" (15 : Nat) "SleeveSlips$Text" "numbers" "[I" ∈ ztb := zin (List.mem_append_right _ (List.mem_of_getElem? (i := 38) (by decide +kernel))) rfl
theorem tm_54 : Jvm.Cond.arrayClass Jvm.ClassFile.FieldType.byte ∈ ztb := zin (List.mem_append_right _ (List.mem_of_getElem? (i := 54) (by decide +kernel))) rfl
theorem tm_55 : Jvm.Cond.arrayClass Jvm.ClassFile.FieldType.int ∈ ztb := zin (List.mem_append_right _ (List.mem_of_getElem? (i := 55) (by decide +kernel))) rfl
theorem tm_60 : Jvm.Cond.code ({ cls := "SleeveSlips$Town", name := "<init>", desc := "()V" } : Jvm.MethodName) prog_7_method_1_code (1 : Nat) (Option.none : Option Jvm.ClassFile.FieldType) ∈ ztb := zin (List.mem_append_right _ (List.mem_of_getElem? (i := 60) (by decide +kernel))) rfl
theorem tm_61 : Jvm.Cond.methodLink "SleeveSlips$Town" (3 : Nat) ({ cls := "java/lang/Object", name := "<init>", desc := "()V" } : Jvm.MethodName) ∈ ztb := zin (List.mem_append_right _ (List.mem_of_getElem? (i := 61) (by decide +kernel))) rfl
theorem tm_66 : Jvm.Cond.fieldLink "SleeveSlips$Town" (9 : Nat) "SleeveSlips$Town" "room" "[I" ∈ ztb := zin (List.mem_append_right _ (List.mem_of_getElem? (i := 66) (by decide +kernel))) rfl
theorem tm_68 : Jvm.Cond.fieldLink "SleeveSlips$Town" (15 : Nat) "SleeveSlips$Town" "work" "[I" ∈ ztb := zin (List.mem_append_right _ (List.mem_of_getElem? (i := 68) (by decide +kernel))) rfl
theorem tm_71 : Jvm.Cond.fieldLink "SleeveSlips$Town" (18 : Nat) "SleeveSlips$Town" "price" "[I" ∈ ztb := zin (List.mem_append_right _ (List.mem_of_getElem? (i := 71) (by decide +kernel))) rfl
theorem tm_79 : Jvm.Cond.fieldLink "SleeveSlips$Town" (21 : Nat) "SleeveSlips$Town" "whom" "[I" ∈ ztb := zin (List.mem_append_right _ (List.mem_of_getElem? (i := 79) (by decide +kernel))) rfl
theorem tm_82 : Jvm.Cond.fieldLink "SleeveSlips$Town" (24 : Nat) "SleeveSlips$Town" "askedOn" "[I" ∈ ztb := zin (List.mem_append_right _ (List.mem_of_getElem? (i := 82) (by decide +kernel))) rfl
theorem tm_86 : Jvm.Cond.fieldLink "SleeveSlips$Town" (27 : Nat) "SleeveSlips$Town" "units" "[I" ∈ ztb := zin (List.mem_append_right _ (List.mem_of_getElem? (i := 86) (by decide +kernel))) rfl
theorem tm_89 : Jvm.Cond.fieldLink "SleeveSlips$Town" (30 : Nat) "SleeveSlips$Town" "worth" "[I" ∈ ztb := zin (List.mem_append_right _ (List.mem_of_getElem? (i := 89) (by decide +kernel))) rfl
theorem tm_93 : Jvm.Cond.fieldLink "SleeveSlips$Town" (33 : Nat) "SleeveSlips$Town" "due" "[I" ∈ ztb := zin (List.mem_append_right _ (List.mem_of_getElem? (i := 93) (by decide +kernel))) rfl
theorem tm_100 : Jvm.Cond.fieldLink "SleeveSlips$Town" (36 : Nat) "SleeveSlips$Town" "hangsOn" "[I" ∈ ztb := zin (List.mem_append_right _ (List.mem_of_getElem? (i := 100) (by decide +kernel))) rfl
theorem tm_132 : Jvm.Cond.code ({ cls := "SleeveSlips$Now", name := "<init>", desc := "()V" } : Jvm.MethodName) prog_4_method_1_code (1 : Nat) (Option.none : Option Jvm.ClassFile.FieldType) ∈ ztb := zin (List.mem_append_right _ (List.mem_of_getElem? (i := 132) (by decide +kernel))) rfl
theorem tm_133 : Jvm.Cond.methodLink "SleeveSlips$Now" (3 : Nat) ({ cls := "java/lang/Object", name := "<init>", desc := "()V" } : Jvm.MethodName) ∈ ztb := zin (List.mem_append_right _ (List.mem_of_getElem? (i := 133) (by decide +kernel))) rfl
theorem tm_134 : Jvm.Cond.methodLink "SleeveSlips$Now" (30 : Nat) ({ cls := "java/util/Arrays", name := "fill", desc := "([II)V" } : Jvm.MethodName) ∈ ztb := zin (List.mem_append_right _ (List.mem_of_getElem? (i := 134) (by decide +kernel))) rfl
theorem tm_135 : Jvm.Cond.static ({ cls := "java/util/Arrays", name := "fill", desc := "([II)V" } : Jvm.MethodName) ∈ ztb := zin (List.mem_append_right _ (List.mem_of_getElem? (i := 135) (by decide +kernel))) rfl
theorem tm_136 : Jvm.Cond.code ({ cls := "java/util/Arrays", name := "fill", desc := "([II)V" } : Jvm.MethodName) prog_16_method_103_code (4 : Nat) (Option.none : Option Jvm.ClassFile.FieldType) ∈ ztb := zin (List.mem_append_right _ (List.mem_of_getElem? (i := 136) (by decide +kernel))) rfl
theorem tm_143 : Jvm.Cond.fieldLink "SleeveSlips$Now" (9 : Nat) "SleeveSlips$Now" "became" "[I" ∈ ztb := zin (List.mem_append_right _ (List.mem_of_getElem? (i := 143) (by decide +kernel))) rfl
theorem tm_145 : Jvm.Cond.fieldLink "SleeveSlips$Now" (15 : Nat) "SleeveSlips$Now" "left" "[I" ∈ ztb := zin (List.mem_append_right _ (List.mem_of_getElem? (i := 145) (by decide +kernel))) rfl
theorem tm_147 : Jvm.Cond.fieldLink "SleeveSlips$Now" (18 : Nat) "SleeveSlips$Now" "sleeve" "[I" ∈ ztb := zin (List.mem_append_right _ (List.mem_of_getElem? (i := 147) (by decide +kernel))) rfl
theorem tm_149 : Jvm.Cond.fieldLink "SleeveSlips$Now" (21 : Nat) "SleeveSlips$Now" "slipCount" "[I" ∈ ztb := zin (List.mem_append_right _ (List.mem_of_getElem? (i := 149) (by decide +kernel))) rfl
theorem tm_151 : Jvm.Cond.fieldLink "SleeveSlips$Now" (24 : Nat) "SleeveSlips$Now" "slips" "[I" ∈ ztb := zin (List.mem_append_right _ (List.mem_of_getElem? (i := 151) (by decide +kernel))) rfl
theorem tm_154 : Jvm.Cond.fieldLink "SleeveSlips$Now" (27 : Nat) "SleeveSlips$Now" "deedRows" "[I" ∈ ztb := zin (List.mem_append_right _ (List.mem_of_getElem? (i := 154) (by decide +kernel))) rfl
theorem tm_181 : Jvm.Cond.code ({ cls := "SleeveSlips$Chances", name := "<init>", desc := "()V" } : Jvm.MethodName) prog_2_method_1_code (1 : Nat) (Option.none : Option Jvm.ClassFile.FieldType) ∈ ztb := zin (List.mem_append_right _ (List.mem_of_getElem? (i := 181) (by decide +kernel))) rfl
theorem tm_182 : Jvm.Cond.methodLink "SleeveSlips$Chances" (3 : Nat) ({ cls := "java/lang/Object", name := "<init>", desc := "()V" } : Jvm.MethodName) ∈ ztb := zin (List.mem_append_right _ (List.mem_of_getElem? (i := 182) (by decide +kernel))) rfl
theorem tm_183 : Jvm.Cond.classLink "SleeveSlips$Chances" (25 : Nat) "[[J" ∈ ztb := zin (List.mem_append_right _ (List.mem_of_getElem? (i := 183) (by decide +kernel))) rfl
theorem tm_185 : Jvm.Cond.fieldLink "SleeveSlips$Chances" (9 : Nat) "SleeveSlips$Chances" "tenths" "[I" ∈ ztb := zin (List.mem_append_right _ (List.mem_of_getElem? (i := 185) (by decide +kernel))) rfl
theorem tm_187 : Jvm.Cond.fieldLink "SleeveSlips$Chances" (15 : Nat) "SleeveSlips$Chances" "worth" "[I" ∈ ztb := zin (List.mem_append_right _ (List.mem_of_getElem? (i := 187) (by decide +kernel))) rfl
theorem tm_188 : Jvm.Cond.fieldLink "SleeveSlips$Chances" (18 : Nat) "SleeveSlips$Chances" "days" "[I" ∈ ztb := zin (List.mem_append_right _ (List.mem_of_getElem? (i := 188) (by decide +kernel))) rfl
theorem tm_189 : Jvm.Cond.fieldLink "SleeveSlips$Chances" (21 : Nat) "SleeveSlips$Chances" "known" "[Z" ∈ ztb := zin (List.mem_append_right _ (List.mem_of_getElem? (i := 189) (by decide +kernel))) rfl
theorem tm_191 : Jvm.Cond.fieldLink "SleeveSlips$Chances" (27 : Nat) "SleeveSlips$Chances" "means" "[[J" ∈ ztb := zin (List.mem_append_right _ (List.mem_of_getElem? (i := 191) (by decide +kernel))) rfl
theorem tm_211 : Jvm.Cond.arrayClass Jvm.ClassFile.FieldType.boolean ∈ ztb := zin (List.mem_append_right _ (List.mem_of_getElem? (i := 211) (by decide +kernel))) rfl
theorem tm_212 : Jvm.Cond.arrayClass Jvm.ClassFile.FieldType.long ∈ ztb := zin (List.mem_append_right _ (List.mem_of_getElem? (i := 212) (by decide +kernel))) rfl
theorem tm_217 : Jvm.Cond.code ({ cls := "SleeveSlips$Chooser", name := "<init>", desc := "()V" } : Jvm.MethodName) prog_3_method_1_code (1 : Nat) (Option.none : Option Jvm.ClassFile.FieldType) ∈ ztb := zin (List.mem_append_right _ (List.mem_of_getElem? (i := 217) (by decide +kernel))) rfl
theorem tm_218 : Jvm.Cond.methodLink "SleeveSlips$Chooser" (3 : Nat) ({ cls := "java/lang/Object", name := "<init>", desc := "()V" } : Jvm.MethodName) ∈ ztb := zin (List.mem_append_right _ (List.mem_of_getElem? (i := 218) (by decide +kernel))) rfl
theorem tm_223 : Jvm.Cond.fieldLink "SleeveSlips$Chooser" (9 : Nat) "SleeveSlips$Chooser" "left" "[I" ∈ ztb := zin (List.mem_append_right _ (List.mem_of_getElem? (i := 223) (by decide +kernel))) rfl
theorem tm_235 : Jvm.Cond.code ({ cls := "SleeveSlips$Rings", name := "<init>", desc := "()V" } : Jvm.MethodName) prog_5_method_1_code (1 : Nat) (Option.none : Option Jvm.ClassFile.FieldType) ∈ ztb := zin (List.mem_append_right _ (List.mem_of_getElem? (i := 235) (by decide +kernel))) rfl
theorem tm_236 : Jvm.Cond.methodLink "SleeveSlips$Rings" (3 : Nat) ({ cls := "java/lang/Object", name := "<init>", desc := "()V" } : Jvm.MethodName) ∈ ztb := zin (List.mem_append_right _ (List.mem_of_getElem? (i := 236) (by decide +kernel))) rfl
theorem tm_237 : Jvm.Cond.fieldLink "SleeveSlips$Rings" (9 : Nat) "SleeveSlips$Rings" "row" "[I" ∈ ztb := zin (List.mem_append_right _ (List.mem_of_getElem? (i := 237) (by decide +kernel))) rfl
theorem tm_719 : Jvm.Cond.code ({ cls := "SleeveSlipsModel", name := "<init>", desc := "()V" } : Jvm.MethodName) prog_9_method_1_code (1 : Nat) (Option.none : Option Jvm.ClassFile.FieldType) ∈ ztb := zin (List.mem_append_right _ (List.mem_of_getElem? (i := 719) (by decide +kernel))) rfl
theorem tm_720 : Jvm.Cond.methodLink "SleeveSlipsModel" (1 : Nat) ({ cls := "java/lang/Object", name := "<init>", desc := "()V" } : Jvm.MethodName) ∈ ztb := zin (List.mem_append_right _ (List.mem_of_getElem? (i := 720) (by decide +kernel))) rfl
theorem tm_721 : Jvm.Cond.fieldLink "SleeveSlipsModel" (7 : Nat) "SleeveSlipsModel" "w" "[I" ∈ ztb := zin (List.mem_append_right _ (List.mem_of_getElem? (i := 721) (by decide +kernel))) rfl
theorem tm_722 : Jvm.Cond.fieldLink "SleeveSlipsModel" (13 : Nat) "SleeveSlipsModel" "isKept" "[Z" ∈ ztb := zin (List.mem_append_right _ (List.mem_of_getElem? (i := 722) (by decide +kernel))) rfl
theorem tm_724 : Jvm.Cond.fieldLink "SleeveSlipsModel" (17 : Nat) "SleeveSlipsModel" "room" "[I" ∈ ztb := zin (List.mem_append_right _ (List.mem_of_getElem? (i := 724) (by decide +kernel))) rfl
theorem tm_725 : Jvm.Cond.fieldLink "SleeveSlipsModel" (20 : Nat) "SleeveSlipsModel" "work" "[I" ∈ ztb := zin (List.mem_append_right _ (List.mem_of_getElem? (i := 725) (by decide +kernel))) rfl
theorem tm_726 : Jvm.Cond.fieldLink "SleeveSlipsModel" (23 : Nat) "SleeveSlipsModel" "price" "[I" ∈ ztb := zin (List.mem_append_right _ (List.mem_of_getElem? (i := 726) (by decide +kernel))) rfl
theorem tm_728 : Jvm.Cond.fieldLink "SleeveSlipsModel" (26 : Nat) "SleeveSlipsModel" "asked" "[I" ∈ ztb := zin (List.mem_append_right _ (List.mem_of_getElem? (i := 728) (by decide +kernel))) rfl
theorem tm_730 : Jvm.Cond.fieldLink "SleeveSlipsModel" (29 : Nat) "SleeveSlipsModel" "hung" "[I" ∈ ztb := zin (List.mem_append_right _ (List.mem_of_getElem? (i := 730) (by decide +kernel))) rfl
theorem tm_731 : Jvm.Cond.fieldLink "SleeveSlipsModel" (32 : Nat) "SleeveSlipsModel" "tenths" "[I" ∈ ztb := zin (List.mem_append_right _ (List.mem_of_getElem? (i := 731) (by decide +kernel))) rfl
theorem tm_732 : Jvm.Cond.fieldLink "SleeveSlipsModel" (35 : Nat) "SleeveSlipsModel" "sortWorth" "[I" ∈ ztb := zin (List.mem_append_right _ (List.mem_of_getElem? (i := 732) (by decide +kernel))) rfl
theorem tm_733 : Jvm.Cond.fieldLink "SleeveSlipsModel" (38 : Nat) "SleeveSlipsModel" "sortDays" "[I" ∈ ztb := zin (List.mem_append_right _ (List.mem_of_getElem? (i := 733) (by decide +kernel))) rfl
theorem tm_735 : Jvm.Cond.fieldLink "SleeveSlipsModel" (41 : Nat) "SleeveSlipsModel" "text" "[I" ∈ ztb := zin (List.mem_append_right _ (List.mem_of_getElem? (i := 735) (by decide +kernel))) rfl
theorem tm_741 : Jvm.Cond.fieldLink "SleeveSlipsModel" (44 : Nat) "SleeveSlipsModel" "readPerson" "[I" ∈ ztb := zin (List.mem_append_right _ (List.mem_of_getElem? (i := 741) (by decide +kernel))) rfl
theorem tm_743 : Jvm.Cond.fieldLink "SleeveSlipsModel" (47 : Nat) "SleeveSlipsModel" "readAsked" "[I" ∈ ztb := zin (List.mem_append_right _ (List.mem_of_getElem? (i := 743) (by decide +kernel))) rfl
theorem tm_745 : Jvm.Cond.fieldLink "SleeveSlipsModel" (50 : Nat) "SleeveSlipsModel" "readHung" "[I" ∈ ztb := zin (List.mem_append_right _ (List.mem_of_getElem? (i := 745) (by decide +kernel))) rfl
theorem tm_746 : Jvm.Cond.fieldLink "SleeveSlipsModel" (53 : Nat) "SleeveSlipsModel" "rest" "[I" ∈ ztb := zin (List.mem_append_right _ (List.mem_of_getElem? (i := 746) (by decide +kernel))) rfl
theorem tm_747 : Jvm.Cond.fieldLink "SleeveSlipsModel" (56 : Nat) "SleeveSlipsModel" "brings" "[J" ∈ ztb := zin (List.mem_append_right _ (List.mem_of_getElem? (i := 747) (by decide +kernel))) rfl
theorem tm_748 : Jvm.Cond.fieldLink "SleeveSlipsModel" (60 : Nat) "SleeveSlipsModel" "later" "[J" ∈ ztb := zin (List.mem_append_right _ (List.mem_of_getElem? (i := 748) (by decide +kernel))) rfl
/-! ===== the constructors: leaves ===== -/
section ZN
variable {p : Program} {l : Launch} {e : Env} {R : Room} {s : State} {m : MethodId} {args : Array Value} {below : List Frame} {meth : Method} {c : Code} {H : Heap} {locs : List Loc} {cells slots : Nat} {Q : State → Prop}
variable {cc : ByteArray} {pc : Nat} {ls : Array Slot} {rest : List Value} {D : va_G} {cl : List vw_C} {A : Nat → Prop} {ws : va_W} {H0 : Heap} {cy : Nat → ClassId}
theorem zn_int (hexec : p.tables.exec = Jvm.exec) (hb : c.code = cc) (harr : (Cond.arrayClass .int).before args s = true) (hK : va_K D cl (ztys cy) s) (hP : va_P D cl ws H) (hD : va_D A ws) (hS : va_S A H0 H locs) (hA : ∀ q, H0.size ≤ q → A q) {n : Int32} {N : Nat} (hn : ¬ n < 0) (hN : n.toNatClampNeg = N) (hbytes : N * 8 ≤ 536870912) (hcells : cells + 1 ≤ R.cells) (hslots : slots + N ≤ R.slots) (hdg : decode cc pc = .ok (.newarray .int, 2))
    (kk : ∀ (q : Nat) (H1 : Heap), va_P D cl (ws ++ [(q, .inl (cy 100, N, .inl (fun _ => 0)))]) H1 → va_D A (ws ++ [(q, .inl (cy 100, N, .inl (fun _ => 0)))]) → va_S A H0 H1 locs → W p l e R s m args below meth c H1 locs (cells + 1) (slots + N) Q (F0 m (pc + 2) ls (.ref q :: rest))) : W p l e R s m args below meth c H locs cells slots Q (F0 m pc ls (.int n :: rest)) := by
  have h8 : N * componentBytes .int ≤ 536870912 := Nat.le_trans (Nat.mul_le_mul_left N (by decide)) hbytes
  refine va_newa (atype := .int) (ty := .int) hexec hb harr rfl hK hP hD hS hA (a0 := (N, .inl (fun _ => 0))) (fun cA => rfl) hn hN h8 hcells hslots hdg (fun q cA H1 hK1 hP1 hD1 hS1 => ?_)
  have h1 : s.vm.findClass ("[" ++ (FieldType.int).toString) = some cA := (hK1.2 6 (cA, .int) rfl).2
  have h2 : s.vm.findClass ("[" ++ (FieldType.int).toString) = some (cy 100) := (hK1.2 0 (cy 100, .int) rfl).2
  have e : cA = cy 100 := Option.some.inj (h1.symm.trans h2)
  rw [e] at hP1 hD1
  exact kk q H1 hP1 hD1 hS1
theorem zn_byte (hexec : p.tables.exec = Jvm.exec) (hb : c.code = cc) (harr : (Cond.arrayClass .byte).before args s = true) (hK : va_K D cl (ztys cy) s) (hP : va_P D cl ws H) (hD : va_D A ws) (hS : va_S A H0 H locs) (hA : ∀ q, H0.size ≤ q → A q) {n : Int32} {N : Nat} (hn : ¬ n < 0) (hN : n.toNatClampNeg = N) (hbytes : N * 8 ≤ 536870912) (hcells : cells + 1 ≤ R.cells) (hslots : slots + N ≤ R.slots) (hdg : decode cc pc = .ok (.newarray .byte, 2))
    (kk : ∀ (q : Nat) (H1 : Heap), va_P D cl (ws ++ [(q, .inl (cy 101, N, .inl (fun _ => 0)))]) H1 → va_D A (ws ++ [(q, .inl (cy 101, N, .inl (fun _ => 0)))]) → va_S A H0 H1 locs → W p l e R s m args below meth c H1 locs (cells + 1) (slots + N) Q (F0 m (pc + 2) ls (.ref q :: rest))) : W p l e R s m args below meth c H locs cells slots Q (F0 m pc ls (.int n :: rest)) := by
  have h8 : N * componentBytes .byte ≤ 536870912 := Nat.le_trans (Nat.mul_le_mul_left N (by decide)) hbytes
  refine va_newa (atype := .byte) (ty := .byte) hexec hb harr rfl hK hP hD hS hA (a0 := (N, .inl (fun _ => 0))) (fun cA => rfl) hn hN h8 hcells hslots hdg (fun q cA H1 hK1 hP1 hD1 hS1 => ?_)
  have h1 : s.vm.findClass ("[" ++ (FieldType.byte).toString) = some cA := (hK1.2 6 (cA, .byte) rfl).2
  have h2 : s.vm.findClass ("[" ++ (FieldType.byte).toString) = some (cy 101) := (hK1.2 1 (cy 101, .byte) rfl).2
  have e : cA = cy 101 := Option.some.inj (h1.symm.trans h2)
  rw [e] at hP1 hD1
  exact kk q H1 hP1 hD1 hS1
theorem zn_boolean (hexec : p.tables.exec = Jvm.exec) (hb : c.code = cc) (harr : (Cond.arrayClass .boolean).before args s = true) (hK : va_K D cl (ztys cy) s) (hP : va_P D cl ws H) (hD : va_D A ws) (hS : va_S A H0 H locs) (hA : ∀ q, H0.size ≤ q → A q) {n : Int32} {N : Nat} (hn : ¬ n < 0) (hN : n.toNatClampNeg = N) (hbytes : N * 8 ≤ 536870912) (hcells : cells + 1 ≤ R.cells) (hslots : slots + N ≤ R.slots) (hdg : decode cc pc = .ok (.newarray .boolean, 2))
    (kk : ∀ (q : Nat) (H1 : Heap), va_P D cl (ws ++ [(q, .inl (cy 102, N, .inl (fun _ => 0)))]) H1 → va_D A (ws ++ [(q, .inl (cy 102, N, .inl (fun _ => 0)))]) → va_S A H0 H1 locs → W p l e R s m args below meth c H1 locs (cells + 1) (slots + N) Q (F0 m (pc + 2) ls (.ref q :: rest))) : W p l e R s m args below meth c H locs cells slots Q (F0 m pc ls (.int n :: rest)) := by
  have h8 : N * componentBytes .boolean ≤ 536870912 := Nat.le_trans (Nat.mul_le_mul_left N (by decide)) hbytes
  refine va_newa (atype := .boolean) (ty := .boolean) hexec hb harr rfl hK hP hD hS hA (a0 := (N, .inl (fun _ => 0))) (fun cA => rfl) hn hN h8 hcells hslots hdg (fun q cA H1 hK1 hP1 hD1 hS1 => ?_)
  have h1 : s.vm.findClass ("[" ++ (FieldType.boolean).toString) = some cA := (hK1.2 6 (cA, .boolean) rfl).2
  have h2 : s.vm.findClass ("[" ++ (FieldType.boolean).toString) = some (cy 102) := (hK1.2 2 (cy 102, .boolean) rfl).2
  have e : cA = cy 102 := Option.some.inj (h1.symm.trans h2)
  rw [e] at hP1 hD1
  exact kk q H1 hP1 hD1 hS1
theorem zn_long (hexec : p.tables.exec = Jvm.exec) (hb : c.code = cc) (harr : (Cond.arrayClass .long).before args s = true) (hK : va_K D cl (ztys cy) s) (hP : va_P D cl ws H) (hD : va_D A ws) (hS : va_S A H0 H locs) (hA : ∀ q, H0.size ≤ q → A q) {n : Int32} {N : Nat} (hn : ¬ n < 0) (hN : n.toNatClampNeg = N) (hbytes : N * 8 ≤ 536870912) (hcells : cells + 1 ≤ R.cells) (hslots : slots + N ≤ R.slots) (hdg : decode cc pc = .ok (.newarray .long, 2))
    (kk : ∀ (q : Nat) (H1 : Heap), va_P D cl (ws ++ [(q, .inl (cy 103, N, .inr (.inl (fun _ => 0))))]) H1 → va_D A (ws ++ [(q, .inl (cy 103, N, .inr (.inl (fun _ => 0))))]) → va_S A H0 H1 locs → W p l e R s m args below meth c H1 locs (cells + 1) (slots + N) Q (F0 m (pc + 2) ls (.ref q :: rest))) : W p l e R s m args below meth c H locs cells slots Q (F0 m pc ls (.int n :: rest)) := by
  have h8 : N * componentBytes .long ≤ 536870912 := Nat.le_trans (Nat.mul_le_mul_left N (by decide)) hbytes
  refine va_newa (atype := .long) (ty := .long) hexec hb harr rfl hK hP hD hS hA (a0 := (N, .inr (.inl (fun _ => 0)))) (fun cA => rfl) hn hN h8 hcells hslots hdg (fun q cA H1 hK1 hP1 hD1 hS1 => ?_)
  have h1 : s.vm.findClass ("[" ++ (FieldType.long).toString) = some cA := (hK1.2 6 (cA, .long) rfl).2
  have h2 : s.vm.findClass ("[" ++ (FieldType.long).toString) = some (cy 103) := (hK1.2 3 (cy 103, .long) rfl).2
  have e : cA = cy 103 := Option.some.inj (h1.symm.trans h2)
  rw [e] at hP1 hD1
  exact kk q H1 hP1 hD1 hS1
end ZN
