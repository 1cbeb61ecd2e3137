theorem tm_2 : Jvm.Cond.initialized "SleeveSlips$Text" ∈ ztb := zin (List.mem_append_right _ (List.mem_of_getElem? (i := 2) (by decide +kernel))) rfl
theorem tm_3 : Jvm.Cond.initialized "SleeveSlips$Town" ∈ ztb := zin (List.mem_append_right _ (List.mem_of_getElem? (i := 3) (by decide +kernel))) rfl
theorem tm_4 : Jvm.Cond.initialized "SleeveSlips$Now" ∈ ztb := zin (List.mem_append_right _ (List.mem_of_getElem? (i := 4) (by decide +kernel))) rfl
theorem tm_6 : Jvm.Cond.initialized "SleeveSlips$Chances" ∈ ztb := zin (List.mem_append_right _ (List.mem_of_getElem? (i := 6) (by decide +kernel))) rfl
theorem tm_7 : Jvm.Cond.initialized "SleeveSlips$Chooser" ∈ ztb := zin (List.mem_append_right _ (List.mem_of_getElem? (i := 7) (by decide +kernel))) rfl
theorem tm_8 : Jvm.Cond.initialized "SleeveSlips$Rings" ∈ ztb := zin (List.mem_append_right _ (List.mem_of_getElem? (i := 8) (by decide +kernel))) rfl
theorem tm_21 : Jvm.Cond.code ({ cls := "SleeveSlips", name := "<init>", desc := "()V" } : Jvm.MethodName) prog_1_method_1_code (2 : Nat) (Option.none : Option Jvm.ClassFile.FieldType) ∈ ztb := zin (List.mem_append_right _ (List.mem_of_getElem? (i := 21) (by decide +kernel))) rfl
theorem tm_22 : Jvm.Cond.methodLink "SleeveSlips" (1 : Nat) ({ cls := "java/lang/Object", name := "<init>", desc := "()V" } : Jvm.MethodName) ∈ ztb := zin (List.mem_append_right _ (List.mem_of_getElem? (i := 22) (by decide +kernel))) rfl
theorem tm_25 : Jvm.Cond.classLink "SleeveSlips" (7 : Nat) "SleeveSlips$Text" ∈ ztb := zin (List.mem_append_right _ (List.mem_of_getElem? (i := 25) (by decide +kernel))) rfl
theorem tm_26 : Jvm.Cond.instantiable "SleeveSlips$Text" (7 : Nat) ∈ ztb := zin (List.mem_append_right _ (List.mem_of_getElem? (i := 26) (by decide +kernel))) rfl
theorem tm_28 : Jvm.Cond.instanceMethod ({ cls := "SleeveSlips$Text", name := "<init>", desc := "()V" } : Jvm.MethodName) ∈ ztb := zin (List.mem_append_right _ (List.mem_of_getElem? (i := 28) (by decide +kernel))) rfl
theorem tm_56 : Jvm.Cond.classLink "SleeveSlips" (16 : Nat) "SleeveSlips$Town" ∈ ztb := zin (List.mem_append_right _ (List.mem_of_getElem? (i := 56) (by decide +kernel))) rfl
theorem tm_57 : Jvm.Cond.instantiable "SleeveSlips$Town" (12 : Nat) ∈ ztb := zin (List.mem_append_right _ (List.mem_of_getElem? (i := 57) (by decide +kernel))) rfl
theorem tm_59 : Jvm.Cond.instanceMethod ({ cls := "SleeveSlips$Town", name := "<init>", desc := "()V" } : Jvm.MethodName) ∈ ztb := zin (List.mem_append_right _ (List.mem_of_getElem? (i := 59) (by decide +kernel))) rfl
theorem tm_128 : Jvm.Cond.classLink "SleeveSlips" (26 : Nat) "SleeveSlips$Now" ∈ ztb := zin (List.mem_append_right _ (List.mem_of_getElem? (i := 128) (by decide +kernel))) rfl
theorem tm_129 : Jvm.Cond.instantiable "SleeveSlips$Now" (10 : Nat) ∈ ztb := zin (List.mem_append_right _ (List.mem_of_getElem? (i := 129) (by decide +kernel))) rfl
theorem tm_130 : Jvm.Cond.methodLink "SleeveSlips" (28 : Nat) ({ cls := "SleeveSlips$Now", name := "<init>", desc := "()V" } : Jvm.MethodName) ∈ ztb := zin (List.mem_append_right _ (List.mem_of_getElem? (i := 130) (by decide +kernel))) rfl
theorem tm_131 : Jvm.Cond.instanceMethod ({ cls := "SleeveSlips$Now", name := "<init>", desc := "()V" } : Jvm.MethodName) ∈ ztb := zin (List.mem_append_right _ (List.mem_of_getElem? (i := 131) (by decide +kernel))) rfl
theorem tm_177 : Jvm.Cond.classLink "SleeveSlips" (41 : Nat) "SleeveSlips$Chances" ∈ ztb := zin (List.mem_append_right _ (List.mem_of_getElem? (i := 177) (by decide +kernel))) rfl
theorem tm_178 : Jvm.Cond.instantiable "SleeveSlips$Chances" (7 : Nat) ∈ ztb := zin (List.mem_append_right _ (List.mem_of_getElem? (i := 178) (by decide +kernel))) rfl
theorem tm_180 : Jvm.Cond.instanceMethod ({ cls := "SleeveSlips$Chances", name := "<init>", desc := "()V" } : Jvm.MethodName) ∈ ztb := zin (List.mem_append_right _ (List.mem_of_getElem? (i := 180) (by decide +kernel))) rfl
theorem tm_213 : Jvm.Cond.classLink "SleeveSlips" (48 : Nat) "SleeveSlips$Chooser" ∈ ztb := zin (List.mem_append_right _ (List.mem_of_getElem? (i := 213) (by decide +kernel))) rfl
theorem tm_214 : Jvm.Cond.instantiable "SleeveSlips$Chooser" (3 : Nat) ∈ ztb := zin (List.mem_append_right _ (List.mem_of_getElem? (i := 214) (by decide +kernel))) rfl
theorem tm_216 : Jvm.Cond.instanceMethod ({ cls := "SleeveSlips$Chooser", name := "<init>", desc := "()V" } : Jvm.MethodName) ∈ ztb := zin (List.mem_append_right _ (List.mem_of_getElem? (i := 216) (by decide +kernel))) rfl
theorem tm_231 : Jvm.Cond.classLink "SleeveSlips" (55 : Nat) "SleeveSlips$Rings" ∈ ztb := zin (List.mem_append_right _ (List.mem_of_getElem? (i := 231) (by decide +kernel))) rfl
theorem tm_232 : Jvm.Cond.instantiable "SleeveSlips$Rings" (1 : Nat) ∈ ztb := zin (List.mem_append_right _ (List.mem_of_getElem? (i := 232) (by decide +kernel))) rfl
theorem tm_234 : Jvm.Cond.instanceMethod ({ cls := "SleeveSlips$Rings", name := "<init>", desc := "()V" } : Jvm.MethodName) ∈ ztb := zin (List.mem_append_right _ (List.mem_of_getElem? (i := 234) (by decide +kernel))) rfl
theorem tm_242 : Jvm.Cond.fieldLink "SleeveSlips" (10 : Nat) "SleeveSlips" "text" "LSleeveSlips$Text;" ∈ ztb := zin (List.mem_append_right _ (List.mem_of_getElem? (i := 242) (by decide +kernel))) rfl
theorem tm_243 : Jvm.Cond.fieldLink "SleeveSlips" (19 : Nat) "SleeveSlips" "told" "LSleeveSlips$Town;" ∈ ztb := zin (List.mem_append_right _ (List.mem_of_getElem? (i := 243) (by decide +kernel))) rfl
theorem tm_244 : Jvm.Cond.fieldLink "SleeveSlips" (23 : Nat) "SleeveSlips" "spare" "LSleeveSlips$Town;" ∈ ztb := zin (List.mem_append_right _ (List.mem_of_getElem? (i := 244) (by decide +kernel))) rfl
theorem tm_245 : Jvm.Cond.fieldLink "SleeveSlips" (29 : Nat) "SleeveSlips" "present" "LSleeveSlips$Now;" ∈ ztb := zin (List.mem_append_right _ (List.mem_of_getElem? (i := 245) (by decide +kernel))) rfl
theorem tm_246 : Jvm.Cond.fieldLink "SleeveSlips" (33 : Nat) "SleeveSlips" "images" "[LSleeveSlips$Now;" ∈ ztb := zin (List.mem_append_right _ (List.mem_of_getElem? (i := 246) (by decide +kernel))) rfl
theorem tm_247 : Jvm.Cond.fieldLink "SleeveSlips" (37 : Nat) "SleeveSlips" "imageKept" "[Z" ∈ ztb := zin (List.mem_append_right _ (List.mem_of_getElem? (i := 247) (by decide +kernel))) rfl
theorem tm_248 : Jvm.Cond.fieldLink "SleeveSlips" (44 : Nat) "SleeveSlips" "chances" "LSleeveSlips$Chances;" ∈ ztb := zin (List.mem_append_right _ (List.mem_of_getElem? (i := 248) (by decide +kernel))) rfl
theorem tm_249 : Jvm.Cond.fieldLink "SleeveSlips" (51 : Nat) "SleeveSlips" "chooser" "LSleeveSlips$Chooser;" ∈ ztb := zin (List.mem_append_right _ (List.mem_of_getElem? (i := 249) (by decide +kernel))) rfl
theorem tm_250 : Jvm.Cond.fieldLink "SleeveSlips" (58 : Nat) "SleeveSlips" "rings" "LSleeveSlips$Rings;" ∈ ztb := zin (List.mem_append_right _ (List.mem_of_getElem? (i := 250) (by decide +kernel))) rfl
theorem dfl_0 : ∀ j, j < tN 0 → defaultValue (tY 0 j) = vp_V [.null, .null, .null, .null, .null, .long 0, .long 0] j := by
  intro j hj
  match j, hj with
  | 0, _ => rfl
  | 1, _ => rfl
  | 2, _ => rfl
  | 3, _ => rfl
  | 4, _ => rfl
  | 5, _ => rfl
  | 6, _ => rfl
  | k + 7, h => exact absurd h (by show ¬ k + 7 < 7; omega)
theorem dfl_1 : ∀ j, j < tN 1 → defaultValue (tY 1 j) = vp_V [.int 0, .int 0, .null] j := by
  intro j hj
  match j, hj with
  | 0, _ => rfl
  | 1, _ => rfl
  | 2, _ => rfl
  | k + 3, h => exact absurd h (by show ¬ k + 3 < 3; omega)
theorem dfl_2 : ∀ j, j < tN 2 → defaultValue (tY 2 j) = vp_V [.int 0, .int 0, .int 0, .null, .null, .null, .null, .null, .int 0, .null] j := by
  intro j hj
  match j, hj with
  | 0, _ => rfl
  | 1, _ => rfl
  | 2, _ => rfl
  | 3, _ => rfl
  | 4, _ => rfl
  | 5, _ => rfl
  | 6, _ => rfl
  | 7, _ => rfl
  | 8, _ => rfl
  | 9, _ => rfl
  | k + 10, h => exact absurd h (by show ¬ k + 10 < 10; omega)
theorem dfl_3 : ∀ j, j < tN 3 → defaultValue (tY 3 j) = vp_V [.null] j := by
  intro j hj
  match j, hj with
  | 0, _ => rfl
  | k + 1, h => exact absurd h (by show ¬ k + 1 < 1; omega)
theorem dfl_4 : ∀ j, j < tN 4 → defaultValue (tY 4 j) = vp_V [.null, .int 0, .int 0, .int 0, .int 0, .int 0, .null] j := by
  intro j hj
  match j, hj with
  | 0, _ => rfl
  | 1, _ => rfl
  | 2, _ => rfl
  | 3, _ => rfl
  | 4, _ => rfl
  | 5, _ => rfl
  | 6, _ => rfl
  | k + 7, h => exact absurd h (by show ¬ k + 7 < 7; omega)
theorem dfl_5 : ∀ j, j < tN 5 → defaultValue (tY 5 j) = vp_V [.int 0, .null, .null, .null, .int 0, .null, .null, .null, .null, .null, .int 0, .null] j := by
  intro j hj
  match j, hj with
  | 0, _ => rfl
  | 1, _ => rfl
  | 2, _ => rfl
  | 3, _ => rfl
  | 4, _ => rfl
  | 5, _ => rfl
  | 6, _ => rfl
  | 7, _ => rfl
  | 8, _ => rfl
  | 9, _ => rfl
  | 10, _ => rfl
  | 11, _ => rfl
  | k + 12, h => exact absurd h (by show ¬ k + 12 < 12; omega)
theorem dfl_6 : ∀ j, j < tN 6 → defaultValue (tY 6 j) = vp_V [.null, .null, .null, .null, .null, .null, .null, .null, .null, .long 0] j := by
  intro j hj
  match j, hj with
  | 0, _ => rfl
  | 1, _ => rfl
  | 2, _ => rfl
  | 3, _ => rfl
  | 4, _ => rfl
  | 5, _ => rfl
  | 6, _ => rfl
  | 7, _ => rfl
  | 8, _ => rfl
  | 9, _ => rfl
  | k + 10, h => exact absurd h (by show ¬ k + 10 < 10; omega)
theorem dfl_7 : ∀ j, j < tN 7 → defaultValue (tY 7 j) = vp_V [.null, .null, .int 0, .null, .null, .null, .int 0, .null, .int 0, .null, .null, .null, .null, .int 0, .null, .int 0, .long 0, .int 0, .int 0, .int 0, .null, .int 0, .null, .int 0, .null, .null, .null, .null] j := by
  intro j hj
  match j, hj with
  | 0, _ => rfl
  | 1, _ => rfl
  | 2, _ => rfl
  | 3, _ => rfl
  | 4, _ => rfl
  | 5, _ => rfl
  | 6, _ => rfl
  | 7, _ => rfl
  | 8, _ => rfl
  | 9, _ => rfl
  | 10, _ => rfl
  | 11, _ => rfl
  | 12, _ => rfl
  | 13, _ => rfl
  | 14, _ => rfl
  | 15, _ => rfl
  | 16, _ => rfl
  | 17, _ => rfl
  | 18, _ => rfl
  | 19, _ => rfl
  | 20, _ => rfl
  | 21, _ => rfl
  | 22, _ => rfl
  | 23, _ => rfl
  | 24, _ => rfl
  | 25, _ => rfl
  | 26, _ => rfl
  | 27, _ => rfl
  | k + 28, h => exact absurd h (by show ¬ k + 28 < 28; omega)
abbrev ic_6 : ByteArray := prog_1_method_1_code
def iy_6 : MethodName := ⟨"SleeveSlips", "<init>", "()V"⟩
def iw_6 : List Cond := Cond.code iy_6 ic_6 2 none :: ztb
theorem ii_6 : ∀ w ∈ iw_6, w ∈ ztb := fun w hw => by
  rcases List.mem_cons.mp hw with rfl | hw
  · exact tm_21
  · exact hw
theorem id_6_0 : decode ic_6 0 = .ok (.aload_n 0, 1) := by decide +kernel
theorem id_6_1 : decode ic_6 1 = .ok (.invokespecial 1, 3) := by decide +kernel
theorem id_6_4 : decode ic_6 4 = .ok (.aload_n 0, 1) := by decide +kernel
theorem id_6_5 : decode ic_6 5 = .ok (.new 7, 3) := by decide +kernel
theorem id_6_8 : decode ic_6 8 = .ok (.dup, 1) := by decide +kernel
theorem id_6_9 : decode ic_6 9 = .ok (.invokespecial 9, 3) := by decide +kernel
theorem id_6_12 : decode ic_6 12 = .ok (.putfield 10, 3) := by decide +kernel
theorem id_6_15 : decode ic_6 15 = .ok (.aload_n 0, 1) := by decide +kernel
theorem id_6_16 : decode ic_6 16 = .ok (.new 16, 3) := by decide +kernel
theorem id_6_19 : decode ic_6 19 = .ok (.dup, 1) := by decide +kernel
theorem id_6_20 : decode ic_6 20 = .ok (.invokespecial 18, 3) := by decide +kernel
theorem id_6_23 : decode ic_6 23 = .ok (.putfield 19, 3) := by decide +kernel
theorem id_6_26 : decode ic_6 26 = .ok (.aload_n 0, 1) := by decide +kernel
theorem id_6_27 : decode ic_6 27 = .ok (.new 16, 3) := by decide +kernel
theorem id_6_30 : decode ic_6 30 = .ok (.dup, 1) := by decide +kernel
theorem id_6_31 : decode ic_6 31 = .ok (.invokespecial 18, 3) := by decide +kernel
theorem id_6_34 : decode ic_6 34 = .ok (.putfield 23, 3) := by decide +kernel
theorem id_6_37 : decode ic_6 37 = .ok (.aload_n 0, 1) := by decide +kernel
theorem id_6_38 : decode ic_6 38 = .ok (.new 26, 3) := by decide +kernel
theorem id_6_41 : decode ic_6 41 = .ok (.dup, 1) := by decide +kernel
theorem id_6_42 : decode ic_6 42 = .ok (.invokespecial 28, 3) := by decide +kernel
theorem id_6_45 : decode ic_6 45 = .ok (.putfield 29, 3) := by decide +kernel
theorem id_6_48 : decode ic_6 48 = .ok (.aload_n 0, 1) := by decide +kernel
theorem id_6_49 : decode ic_6 49 = .ok (.iconst 2, 1) := by decide +kernel
theorem id_6_50 : decode ic_6 50 = .ok (.anewarray 26, 3) := by decide +kernel
theorem id_6_53 : decode ic_6 53 = .ok (.putfield 33, 3) := by decide +kernel
theorem id_6_56 : decode ic_6 56 = .ok (.iconst 0, 1) := by decide +kernel
theorem id_6_57 : decode ic_6 57 = .ok (.istore_n 1, 1) := by decide +kernel
theorem id_6_58 : decode ic_6 58 = .ok (.iload_n 1, 1) := by decide +kernel
theorem id_6_59 : decode ic_6 59 = .ok (.iconst 2, 1) := by decide +kernel
theorem id_6_60 : decode ic_6 60 = .ok (.if_icmp .ge 22, 3) := by decide +kernel
theorem id_6_63 : decode ic_6 63 = .ok (.aload_n 0, 1) := by decide +kernel
theorem id_6_64 : decode ic_6 64 = .ok (.getfield 33, 3) := by decide +kernel
theorem id_6_67 : decode ic_6 67 = .ok (.iload_n 1, 1) := by decide +kernel
theorem id_6_68 : decode ic_6 68 = .ok (.new 26, 3) := by decide +kernel
theorem id_6_71 : decode ic_6 71 = .ok (.dup, 1) := by decide +kernel
theorem id_6_72 : decode ic_6 72 = .ok (.invokespecial 28, 3) := by decide +kernel
theorem id_6_75 : decode ic_6 75 = .ok (.aastore, 1) := by decide +kernel
theorem id_6_76 : decode ic_6 76 = .ok (.iinc 1 1, 3) := by decide +kernel
theorem id_6_79 : decode ic_6 79 = .ok (.goto (-21), 3) := by decide +kernel
theorem id_6_82 : decode ic_6 82 = .ok (.aload_n 0, 1) := by decide +kernel
theorem id_6_83 : decode ic_6 83 = .ok (.iconst 2, 1) := by decide +kernel
theorem id_6_84 : decode ic_6 84 = .ok (.newarray .boolean, 2) := by decide +kernel
theorem id_6_86 : decode ic_6 86 = .ok (.putfield 37, 3) := by decide +kernel
theorem id_6_89 : decode ic_6 89 = .ok (.aload_n 0, 1) := by decide +kernel
theorem id_6_90 : decode ic_6 90 = .ok (.new 41, 3) := by decide +kernel
theorem id_6_93 : decode ic_6 93 = .ok (.dup, 1) := by decide +kernel
theorem id_6_94 : decode ic_6 94 = .ok (.invokespecial 43, 3) := by decide +kernel
theorem id_6_97 : decode ic_6 97 = .ok (.putfield 44, 3) := by decide +kernel
theorem id_6_100 : decode ic_6 100 = .ok (.aload_n 0, 1) := by decide +kernel
theorem id_6_101 : decode ic_6 101 = .ok (.new 48, 3) := by decide +kernel
theorem id_6_104 : decode ic_6 104 = .ok (.dup, 1) := by decide +kernel
theorem id_6_105 : decode ic_6 105 = .ok (.invokespecial 50, 3) := by decide +kernel
theorem id_6_108 : decode ic_6 108 = .ok (.putfield 51, 3) := by decide +kernel
theorem id_6_111 : decode ic_6 111 = .ok (.aload_n 0, 1) := by decide +kernel
theorem id_6_112 : decode ic_6 112 = .ok (.new 55, 3) := by decide +kernel
theorem id_6_115 : decode ic_6 115 = .ok (.dup, 1) := by decide +kernel
theorem id_6_116 : decode ic_6 116 = .ok (.invokespecial 57, 3) := by decide +kernel
theorem id_6_119 : decode ic_6 119 = .ok (.putfield 58, 3) := by decide +kernel
theorem id_6_122 : decode ic_6 122 = .ok (.return_, 1) := by decide +kernel
/-- what the tables say that no list of words carries over a call -/
def zNs (cy : Nat → ClassId) (U : State) : Prop := va_Nw (.methodLinkNest "SleeveSlips" 9 iy_4 "SleeveSlips") U ∧ va_Nw (.methodLinkNest "SleeveSlips" 18 iy_5 "SleeveSlips") U ∧ va_Nw (.methodLinkNest "SleeveSlips" 43 iy_0 "SleeveSlips") U ∧ va_Nw (.methodLinkNest "SleeveSlips" 50 iy_1 "SleeveSlips") U ∧ va_Nw (.methodLinkNest "SleeveSlips" 57 iy_3 "SleeveSlips") U ∧ va_AO "SleeveSlips$Now" U ∧ (∃ kA, U.vm.classes[cy 105]? = some kA ∧ kA.kind = .array (cy 103) (.array .long))
theorem zNs.warm {cy : Nat → ClassId} {s U : State} (hW : s.WarmedH U.vm) (h : zNs cy s) : zNs cy U := by
  obtain ⟨h1, h2, h3, h4, h5, h6, kA, h7, h8⟩ := h
  obtain ⟨kA₁, h9, he⟩ := hW.alike.2.2 _ _ h7
  exact ⟨h1.warmM hW, h2.warmM hW, h3.warmM hW, h4.warmM hW, h5.warmM hW, va_AO.moved hW.alike h6, kA₁, h9, by rw [he]; exact h8⟩
theorem zNs.same {cy : Nat → ClassId} {s U : State} (hv : s.vm = U.vm) (h : zNs cy s) : zNs cy U := by
  obtain ⟨h1, h2, h3, h4, h5, h6, kA, h7, h8⟩ := h
  exact ⟨va_tabs rfl hv h1, va_tabs rfl hv h2, va_tabs rfl hv h3, va_tabs rfl hv h4, va_tabs rfl hv h5, va_AO.moved (by rw [hv]; exact Vm.Alike.refl _) h6, kA, by rw [← hv]; exact h7, h8⟩
theorem zM_warm {cy : Nat → ClassId} {s U : State} (hW : s.WarmedH U.vm) (h : ∃ kA, s.vm.classes[cy 105]? = some kA ∧ kA.kind = .array (cy 103) (.array .long)) : ∃ kA, U.vm.classes[cy 105]? = some kA ∧ kA.kind = .array (cy 103) (.array .long) := by
  obtain ⟨kA, h7, h8⟩ := h
  obtain ⟨kA₁, h9, he⟩ := hW.alike.2.2 _ _ h7
  exact ⟨kA₁, h9, by rw [he]; exact h8⟩
abbrev iS : Type := (Nat → (Nat → Nat) × (Nat → Int32)) × (Nat × Nat)
def iW_6 (cy : Nat → ClassId) (h0 : Nat) (u : iS) : va_W := (h0, .inr (6, [.ref ((u.1 1).1 0), .ref ((u.1 2).1 0), .ref ((u.1 3).1 0), .ref ((u.1 4).1 0), .ref u.2.1, .ref u.2.2, .ref ((u.1 7).1 0), .ref ((u.1 8).1 0), .ref ((u.1 9).1 0), .long 0])) :: (u.2.1, .inl (cy 104, 2, .inr (.inr (.inr (.inr (va_up (va_up (fun _ => none) 0 (some ((u.1 5).1 0))) 1 (some ((u.1 6).1 0)))))))) :: (iW_3 cy (u.1 9) ++ (iW_1 cy (u.1 8) ++ (iW_0 cy (u.1 7) ++ ([(u.2.2, .inl (cy 102, 2, .inl (fun _ => 0)))] ++ (iW_2 cy (u.1 6) ++ (iW_2 cy (u.1 5) ++ (iW_2 cy (u.1 4) ++ (iW_5 cy (u.1 3) ++ (iW_5 cy (u.1 2) ++ (iW_4 cy (u.1 1) ++ []))))))))))
abbrev iD_6 (h0 : Nat) : va_W := [(h0, .inr (6, [.null, .null, .null, .null, .null, .null, .null, .null, .null, .long 0]))]
set_option maxHeartbeats 8000000 in
set_option maxRecDepth 100000 in
theorem i_6 (l : Launch) (cy : Nat → ClassId) (D : va_G) (h0 sz : Nat) : Met l iy_6 iw_6 ({ frames := 2, cells := 63, slots := 902, locals := 60 }) (va_Pc [.ref h0] (fun U => U.heap.size = sz ∧ va_P D vwCl (iD_6 h0) U.heap ∧ va_K D vwCl (ztys cy) U ∧ va_D (fun _ => True) (iD_6 h0) ∧ zNs cy U)) (va_Qv (fun u : iS => (∀ j, j < 8 → (u.1 4).2 j = -1) ∧ (∀ j, j < 8 → (u.1 5).2 j = -1) ∧ (∀ j, j < 8 → (u.1 6).2 j = -1)) (fun u t => va_P D vwCl (iW_6 cy h0 u) t.heap ∧ va_D (va_A (iD_6 h0) sz) (iW_6 cy h0 u)) (va_A (iD_6 h0) sz)) 63 902 (va_A (iD_6 h0) sz) := by
  refine Met.ofW (cc := ic_6) (maxL := 2) (ret := none) (by decide) rfl ?_
  intro p e s m args below meth c s₁ B hml hv
  obtain ⟨rfl, hsz, hP, hK, hD0, hN⟩ := hv
  have hx := B.exec
  have hb := B.bytes
  have hr := B.returns
  have hts : ∀ w ∈ ztb, w.before ([.ref h0] : List Value).toArray s = true := fun w hw => atoms_spec (ws := iw_6) B.pre w (List.mem_cons_of_mem _ hw)
  have hown : s.vm.findClass "SleeveSlips" = some m.cls := findClass_of_methodNamed B.named
  have hlocks := B.notSynchronized
  have hin : meth.name = "<init>" := (name_of_methodNamed B.named B.method).1
  subst hsz
  have hD := hD0.self (sz := s.heap.size)
  generalize hAe : va_A (iD_6 h0) s.heap.size = A at hD ⊢
  have hA : ∀ q : Nat, s.heap.size ≤ q → A q := fun q h => by rw [← hAe]; exact Or.inr h
  have hS : va_S A s.heap s.heap [] := va_S.rf
  have hl := lv_entry ([.ref h0]) (n := 2) (Nat.le_of_ble_eq_true rfl)
  rw [lg_entry_eq]
  generalize (lg_sl ([.ref h0] : List Value) ++ List.replicate (2 - (lg_sl ([.ref h0] : List Value)).length) Slot.unset).toArray = ls at hl ⊢
  have hl : lv_has ls 2 [(0, .ref h0)] := hl
  refine lv_aload_n hx hb id_6_0 rfl (lv_at hl 0 rfl) ?_
  refine W.objInit hx hb hown (hts _ tm_22) (hts _ tm_23) (hts _ tm_24) rfl (by rw [hml]; exact hl.1) rfl id_6_1 (Nat.le_of_ble_eq_true rfl) (Nat.le_of_ble_eq_true rfl) ?_
  refine W.eq (g2 := F0 m 4 ls []) rfl ?_
  refine lv_aload_n hx hb id_6_4 rfl (lv_at hl 0 rfl) ?_
  refine va_new (ci := 4) (fs := [.null, .int 0, .int 0, .int 0, .int 0, .int 0, .null]) hx hb hts (ztIn 4 (by decide)) (tY 4) (tTy 4 (by decide)) hown (hts _ tm_25) (hts _ tm_26) (hts _ tm_2) hK hP hD hS hA (tCl 4 (by decide)) (fun j hj => dfl_4 j hj) (Nat.le_of_ble_eq_true rfl) (Nat.le_of_ble_eq_true rfl) id_6_5 (fun q1 H hP hD hS => ?_)
  refine W.widen (k := 1) (n := 7) (by decide) (by decide) ?_
  refine lv_dup hx hb id_6_8 rfl ?_
  have hPc : va_P D vwCl (iD_4 q1) H := zw_lastP hP
  have hDc : va_D A (iD_4 q1) := zw_lastD hD
  have hFc : ∀ z, va_A (iD_4 q1) H.size z → A z := zw_free hD hS hA
  refine va_callv (va_runIN (As := []) (rest := [.ref q1, .ref h0]) ⟨hx, hb, hml, hown, hts⟩ (i_4 l cy D q1 H.size) (⟨va_cnB 0 hts (zgood_in (fun w hw => ii_4 w hw)) rfl rfl rfl (hN.1) (hts _ tm_2) (by decide +kernel) ⟨Nat.le_of_ble_eq_true rfl, Nat.le_of_ble_eq_true rfl⟩, rfl, hts _ tm_28⟩) ⟨fun a U g mk q => by obtain ⟨q0, q1, qP, qK, qD⟩ := q; exact ⟨q0, q1, qP, va_K.moved (u := U) (U := U.calling g mk a) (Vm.Alike.refl U.vm) qK, qD⟩, fun U hU hW => ⟨rfl, by rw [hU], by rw [hU]; exact hPc, va_K.moved hW.alike hK, hDc.weaken (fun _ _ _ _ => trivial)⟩⟩ rfl rfl hl.1 rfl (lv_room (Nat.le_of_ble_eq_true rfl)) id_6_9 ⟨Nat.le_of_ble_eq_true rfl, Nat.le_of_ble_eq_true rfl⟩) hS (fun q _ h => hFc q h) hFc (fun u1 t H1 locs ht hvm hw hB hz1 hk1 hS => ?_)
  obtain ⟨hP1, hD1⟩ := hB
  rw [ht] at hP1
  obtain ⟨eu1, hsu1⟩ := hw
  subst eu1
  obtain ⟨hP, hD⟩ := zw_join (w1 := iW_4 cy u1) hP hD hk1 hFc hP1 hD1
  generalize H1 = H at hP hS ⊢
  refine W.widen (k := 3) (n := 312) (by decide) (by decide) ?_
  have hP := zw_swapP hP
  have hD := zw_swapD hD
  obtain ⟨Y1, hY1⟩ : ∃ Z : va_W, Z = iW_4 cy u1 ++ ([] : va_W) := ⟨_, rfl⟩
  rw [← hY1] at hP hD
  refine va_putF hx hb hts (ztIn 6 (by decide)) (tY 6) (tTy 6 (by decide)) (tNm 6 (by decide)) hown hK hP hD hS 0 rfl (tCl 6 (by decide)) 0 (by decide) (hts _ tm_242) (fun _ z => z) rfl hin rfl (tTy 6 (by decide) 0 (by decide)) rfl rfl (Nat.le_of_ble_eq_true rfl) id_6_12 (fun H locs hP hD hS => ?_)
  have hP : va_P D vwCl ((h0, .inr (6, [.ref (u1.1 0), .null, .null, .null, .null, .null, .null, .null, .null, .long 0])) :: Y1 : va_W) H := hP
  have hD : va_D A ((h0, .inr (6, [.ref (u1.1 0), .null, .null, .null, .null, .null, .null, .null, .null, .long 0])) :: Y1 : va_W) := hD
  refine lv_aload_n hx hb id_6_15 rfl (lv_at hl 0 rfl) ?_
  refine va_new (ci := 5) (fs := [.int 0, .null, .null, .null, .int 0, .null, .null, .null, .null, .null, .int 0, .null]) hx hb hts (ztIn 5 (by decide)) (tY 5) (tTy 5 (by decide)) hown (hts _ tm_56) (hts _ tm_57) (hts _ tm_3) hK hP hD hS hA (tCl 5 (by decide)) (fun j hj => dfl_5 j hj) (Nat.le_of_ble_eq_true rfl) (Nat.le_of_ble_eq_true rfl) id_6_16 (fun q2 H hP hD hS => ?_)
  refine W.widen (k := 4) (n := 324) (by decide) (by decide) ?_
  refine lv_dup hx hb id_6_19 rfl ?_
  have hPc : va_P D vwCl (iD_5 q2) H := zw_lastP hP
  have hDc : va_D A (iD_5 q2) := zw_lastD hD
  have hFc : ∀ z, va_A (iD_5 q2) H.size z → A z := zw_free hD hS hA
  refine va_callv (va_runIN (As := []) (rest := [.ref q2, .ref h0]) ⟨hx, hb, hml, hown, hts⟩ (i_5 l cy D q2 H.size) (⟨va_cnB 0 hts (zgood_in (fun w hw => ii_5 w hw)) rfl rfl rfl (hN.2.1) (hts _ tm_3) (by decide +kernel) ⟨Nat.le_of_ble_eq_true rfl, Nat.le_of_ble_eq_true rfl⟩, rfl, hts _ tm_59⟩) ⟨fun a U g mk q => by obtain ⟨q0, q1, qP, qK, qD⟩ := q; exact ⟨q0, q1, qP, va_K.moved (u := U) (U := U.calling g mk a) (Vm.Alike.refl U.vm) qK, qD⟩, fun U hU hW => ⟨rfl, by rw [hU], by rw [hU]; exact hPc, va_K.moved hW.alike hK, hDc.weaken (fun _ _ _ _ => trivial)⟩⟩ rfl rfl hl.1 rfl (lv_room (Nat.le_of_ble_eq_true rfl)) id_6_20 ⟨Nat.le_of_ble_eq_true rfl, Nat.le_of_ble_eq_true rfl⟩) hS (fun q _ h => hFc q h) hFc (fun u2 t H1 locs ht hvm hw hB hz1 hk1 hS => ?_)
  obtain ⟨hP1, hD1⟩ := hB
  rw [ht] at hP1
  obtain ⟨eu2, hsu2⟩ := hw
  subst eu2
  obtain ⟨hP, hD⟩ := zw_join (w1 := iW_5 cy u2) hP hD hk1 hFc hP1 hD1
  generalize H1 = H at hP hS ⊢
  refine W.widen (k := 13) (n := 384) (by decide) (by decide) ?_
  have hP := zw_swapP hP
  have hD := zw_swapD hD
  obtain ⟨Y2, hY2⟩ : ∃ Z : va_W, Z = iW_5 cy u2 ++ Y1 := ⟨_, rfl⟩
  rw [← hY2] at hP hD
  refine va_put hx hb hts (ztIn 6 (by decide)) (tY 6) (tTy 6 (by decide)) (tNm 6 (by decide)) hown hK hP hD hS 0 rfl (tCl 6 (by decide)) 1 (by decide) (hts _ tm_243) (fun _ z => z) rfl (tTy 6 (by decide) 1 (by decide)) rfl rfl (Nat.le_of_ble_eq_true rfl) id_6_23 (fun H locs hP hD hS => ?_)
  have hP : va_P D vwCl ((h0, .inr (6, [.ref (u1.1 0), .ref (u2.1 0), .null, .null, .null, .null, .null, .null, .null, .long 0])) :: Y2 : va_W) H := hP
  have hD : va_D A ((h0, .inr (6, [.ref (u1.1 0), .ref (u2.1 0), .null, .null, .null, .null, .null, .null, .null, .long 0])) :: Y2 : va_W) := hD
  refine lv_aload_n hx hb id_6_26 rfl (lv_at hl 0 rfl) ?_
  refine va_new (ci := 5) (fs := [.int 0, .null, .null, .null, .int 0, .null, .null, .null, .null, .null, .int 0, .null]) hx hb hts (ztIn 5 (by decide)) (tY 5) (tTy 5 (by decide)) hown (hts _ tm_56) (hts _ tm_57) (hts _ tm_3) hK hP hD hS hA (tCl 5 (by decide)) (fun j hj => dfl_5 j hj) (Nat.le_of_ble_eq_true rfl) (Nat.le_of_ble_eq_true rfl) id_6_27 (fun q3 H hP hD hS => ?_)
  refine W.widen (k := 14) (n := 396) (by decide) (by decide) ?_
  refine lv_dup hx hb id_6_30 rfl ?_
  have hPc : va_P D vwCl (iD_5 q3) H := zw_lastP hP
  have hDc : va_D A (iD_5 q3) := zw_lastD hD
  have hFc : ∀ z, va_A (iD_5 q3) H.size z → A z := zw_free hD hS hA
  refine va_callv (va_runIN (As := []) (rest := [.ref q3, .ref h0]) ⟨hx, hb, hml, hown, hts⟩ (i_5 l cy D q3 H.size) (⟨va_cnB 0 hts (zgood_in (fun w hw => ii_5 w hw)) rfl rfl rfl (hN.2.1) (hts _ tm_3) (by decide +kernel) ⟨Nat.le_of_ble_eq_true rfl, Nat.le_of_ble_eq_true rfl⟩, rfl, hts _ tm_59⟩) ⟨fun a U g mk q => by obtain ⟨q0, q1, qP, qK, qD⟩ := q; exact ⟨q0, q1, qP, va_K.moved (u := U) (U := U.calling g mk a) (Vm.Alike.refl U.vm) qK, qD⟩, fun U hU hW => ⟨rfl, by rw [hU], by rw [hU]; exact hPc, va_K.moved hW.alike hK, hDc.weaken (fun _ _ _ _ => trivial)⟩⟩ rfl rfl hl.1 rfl (lv_room (Nat.le_of_ble_eq_true rfl)) id_6_31 ⟨Nat.le_of_ble_eq_true rfl, Nat.le_of_ble_eq_true rfl⟩) hS (fun q _ h => hFc q h) hFc (fun u3 t H1 locs ht hvm hw hB hz1 hk1 hS => ?_)
  obtain ⟨hP1, hD1⟩ := hB
  rw [ht] at hP1
  obtain ⟨eu3, hsu3⟩ := hw
  subst eu3
  obtain ⟨hP, hD⟩ := zw_join (w1 := iW_5 cy u3) hP hD hk1 hFc hP1 hD1
  generalize H1 = H at hP hS ⊢
  refine W.widen (k := 23) (n := 456) (by decide) (by decide) ?_
  have hP := zw_swapP hP
  have hD := zw_swapD hD
  obtain ⟨Y3, hY3⟩ : ∃ Z : va_W, Z = iW_5 cy u3 ++ Y2 := ⟨_, rfl⟩
  rw [← hY3] at hP hD
  refine va_put hx hb hts (ztIn 6 (by decide)) (tY 6) (tTy 6 (by decide)) (tNm 6 (by decide)) hown hK hP hD hS 0 rfl (tCl 6 (by decide)) 2 (by decide) (hts _ tm_244) (fun _ z => z) rfl (tTy 6 (by decide) 2 (by decide)) rfl rfl (Nat.le_of_ble_eq_true rfl) id_6_34 (fun H locs hP hD hS => ?_)
  have hP : va_P D vwCl ((h0, .inr (6, [.ref (u1.1 0), .ref (u2.1 0), .ref (u3.1 0), .null, .null, .null, .null, .null, .null, .long 0])) :: Y3 : va_W) H := hP
  have hD : va_D A ((h0, .inr (6, [.ref (u1.1 0), .ref (u2.1 0), .ref (u3.1 0), .null, .null, .null, .null, .null, .null, .long 0])) :: Y3 : va_W) := hD
  refine lv_aload_n hx hb id_6_37 rfl (lv_at hl 0 rfl) ?_
  refine va_new (ci := 2) (fs := [.int 0, .int 0, .int 0, .null, .null, .null, .null, .null, .int 0, .null]) hx hb hts (ztIn 2 (by decide)) (tY 2) (tTy 2 (by decide)) hown (hts _ tm_128) (hts _ tm_129) (hts _ tm_4) hK hP hD hS hA (tCl 2 (by decide)) (fun j hj => dfl_2 j hj) (Nat.le_of_ble_eq_true rfl) (Nat.le_of_ble_eq_true rfl) id_6_38 (fun q4 H hP hD hS => ?_)
  refine W.widen (k := 24) (n := 466) (by decide) (by decide) ?_
  refine lv_dup hx hb id_6_41 rfl ?_
  have hPc : va_P D vwCl (iD_2 q4) H := zw_lastP hP
  have hDc : va_D A (iD_2 q4) := zw_lastD hD
  have hFc : ∀ z, va_A (iD_2 q4) H.size z → A z := zw_free hD hS hA
  refine va_callv (va_runI (As := []) (rest := [.ref q4, .ref h0]) ⟨hx, hb, hml, hown, hts⟩ (i_2 l cy D q4 H.size) (cwI 0 hts (zgood_in (fun w hw => ii_2 w hw)) rfl rfl rfl (hts _ tm_4) (hts _ tm_130) (hts _ tm_131) rfl (by decide +kernel) ⟨Nat.le_of_ble_eq_true rfl, Nat.le_of_ble_eq_true rfl⟩) ⟨fun a U g mk q => by obtain ⟨q0, q1, qP, qK, qD⟩ := q; exact ⟨q0, q1, qP, va_K.moved (u := U) (U := U.calling g mk a) (Vm.Alike.refl U.vm) qK, qD⟩, fun U hU hW => ⟨rfl, by rw [hU], by rw [hU]; exact hPc, va_K.moved hW.alike hK, hDc.weaken (fun _ _ _ _ => trivial)⟩⟩ rfl rfl hl.1 rfl (lv_room (Nat.le_of_ble_eq_true rfl)) id_6_42 ⟨Nat.le_of_ble_eq_true rfl, Nat.le_of_ble_eq_true rfl⟩) hS (fun q _ h => hFc q h) hFc (fun u4 t H1 locs ht hvm hw hB hz1 hk1 hS => ?_)
  obtain ⟨hP1, hD1⟩ := hB
  rw [ht] at hP1
  obtain ⟨eu4, hsu4⟩ := hw
  subst eu4
  obtain ⟨hP, hD⟩ := zw_join (w1 := iW_2 cy u4) hP hD hk1 hFc hP1 hD1
  generalize H1 = H at hP hS ⊢
  refine W.widen (k := 30) (n := 574) (by decide) (by decide) ?_
  have hP := zw_swapP hP
  have hD := zw_swapD hD
  obtain ⟨Y4, hY4⟩ : ∃ Z : va_W, Z = iW_2 cy u4 ++ Y3 := ⟨_, rfl⟩
  rw [← hY4] at hP hD
  refine va_putF hx hb hts (ztIn 6 (by decide)) (tY 6) (tTy 6 (by decide)) (tNm 6 (by decide)) hown hK hP hD hS 0 rfl (tCl 6 (by decide)) 3 (by decide) (hts _ tm_245) (fun _ z => z) rfl hin rfl (tTy 6 (by decide) 3 (by decide)) rfl rfl (Nat.le_of_ble_eq_true rfl) id_6_45 (fun H locs hP hD hS => ?_)
  have hP : va_P D vwCl ((h0, .inr (6, [.ref (u1.1 0), .ref (u2.1 0), .ref (u3.1 0), .ref (u4.1 0), .null, .null, .null, .null, .null, .long 0])) :: Y4 : va_W) H := hP
  have hD : va_D A ((h0, .inr (6, [.ref (u1.1 0), .ref (u2.1 0), .ref (u3.1 0), .ref (u4.1 0), .null, .null, .null, .null, .null, .long 0])) :: Y4 : va_W) := hD
  refine lv_aload_n hx hb id_6_48 rfl (lv_at hl 0 rfl) ?_
  refine lv_iconst (v := 2) hx hb id_6_49 (by decide) ?_
  refine va_newq (C := "SleeveSlips$Now") hx hb hown (hts _ tm_128) hN.2.2.2.2.2.1 hK hP hD hS hA (N' := 2) (by decide) (by decide) (by decide) (Nat.le_of_ble_eq_true rfl) (Nat.le_of_ble_eq_true rfl) id_6_50 (fun qi cA H hK1 hP hD hS => ?_)
  obtain ⟨-, -, -, -, -, f1⟩ := (hK1.2 6 (cA, .object "SleeveSlips$Now") rfl).2
  obtain ⟨-, -, -, -, -, f2⟩ := (hK1.2 4 (cy 104, .object "SleeveSlips$Now") rfl).2
  have ec : cA = cy 104 := Option.some.inj (f1.symm.trans f2)
  subst ec
  refine W.widen (k := 31) (n := 576) (by decide) (by decide) ?_
  have hP := zw_swapP hP
  have hD := zw_swapD hD
  have hP : va_P D vwCl ((h0, .inr (6, [.ref (u1.1 0), .ref (u2.1 0), .ref (u3.1 0), .ref (u4.1 0), .null, .null, .null, .null, .null, .long 0])) :: (qi, .inl (cy 104, 2, .inr (.inr (.inr (.inr (fun _ => none)))))) :: Y4 : va_W) H := hP
  have hD : va_D A ((h0, .inr (6, [.ref (u1.1 0), .ref (u2.1 0), .ref (u3.1 0), .ref (u4.1 0), .null, .null, .null, .null, .null, .long 0])) :: (qi, .inl (cy 104, 2, .inr (.inr (.inr (.inr (fun _ => none)))))) :: Y4 : va_W) := hD
  refine va_putF hx hb hts (ztIn 6 (by decide)) (tY 6) (tTy 6 (by decide)) (tNm 6 (by decide)) hown hK hP hD hS 0 rfl (tCl 6 (by decide)) 4 (by decide) (hts _ tm_246) (fun _ z => z) rfl hin rfl (tTy 6 (by decide) 4 (by decide)) rfl rfl (Nat.le_of_ble_eq_true rfl) id_6_53 (fun H locs hP hD hS => ?_)
  have hP : va_P D vwCl ((h0, .inr (6, [.ref (u1.1 0), .ref (u2.1 0), .ref (u3.1 0), .ref (u4.1 0), .ref (qi), .null, .null, .null, .null, .long 0])) :: (qi, .inl (cy 104, 2, .inr (.inr (.inr (.inr (fun _ => none)))))) :: Y4 : va_W) H := hP
  have hD : va_D A ((h0, .inr (6, [.ref (u1.1 0), .ref (u2.1 0), .ref (u3.1 0), .ref (u4.1 0), .ref (qi), .null, .null, .null, .null, .long 0])) :: (qi, .inl (cy 104, 2, .inr (.inr (.inr (.inr (fun _ => none)))))) :: Y4 : va_W) := hD
  refine lv_iconst (v := 0) hx hb id_6_56 (by decide) ?_
  refine lv_istore_n (lv' := [(1, .int 0), (0, .ref h0)]) hx hb id_6_57 rfl hl (by decide) rfl (fun ls hl => ?_)
  refine lv_iload_n hx hb id_6_58 rfl (lv_at hl 0 rfl) ?_
  refine lv_iconst (v := 2) hx hb id_6_59 (by decide) ?_
  refine lv_icmp_ge (tgt := 82) hx hb id_6_60 (by decide) (fun z => absurd z (by decide)) (fun _ => ?_)
  refine lv_aload_n hx hb id_6_63 rfl (lv_at hl 1 rfl) ?_
  refine va_get (v := .ref qi) hx hb hts (ztIn 6 (by decide)) hown hK hP 0 rfl (tCl 6 (by decide)) 4 (by decide) (hts _ tm_246) (fun _ z => z) rfl id_6_64 ?_
  refine lv_iload_n hx hb id_6_67 rfl (lv_at hl 0 rfl) ?_
  refine va_new (ci := 2) (fs := [.int 0, .int 0, .int 0, .null, .null, .null, .null, .null, .int 0, .null]) hx hb hts (ztIn 2 (by decide)) (tY 2) (tTy 2 (by decide)) hown (hts _ tm_128) (hts _ tm_129) (hts _ tm_4) hK hP hD hS hA (tCl 2 (by decide)) (fun j hj => dfl_2 j hj) (Nat.le_of_ble_eq_true rfl) (Nat.le_of_ble_eq_true rfl) id_6_68 (fun q5 H hP hD hS => ?_)
  refine W.widen (k := 32) (n := 586) (by decide) (by decide) ?_
  refine lv_dup hx hb id_6_71 rfl ?_
  have hPc : va_P D vwCl (iD_2 q5) H := zw_lastP hP
  have hDc : va_D A (iD_2 q5) := zw_lastD hD
  have hFc : ∀ z, va_A (iD_2 q5) H.size z → A z := zw_free hD hS hA
  refine va_callv (va_runI (As := []) (rest := [.ref q5, .int 0, .ref qi]) ⟨hx, hb, hml, hown, hts⟩ (i_2 l cy D q5 H.size) (cwI 0 hts (zgood_in (fun w hw => ii_2 w hw)) rfl rfl rfl (hts _ tm_4) (hts _ tm_130) (hts _ tm_131) rfl (by decide +kernel) ⟨Nat.le_of_ble_eq_true rfl, Nat.le_of_ble_eq_true rfl⟩) ⟨fun a U g mk q => by obtain ⟨q0, q1, qP, qK, qD⟩ := q; exact ⟨q0, q1, qP, va_K.moved (u := U) (U := U.calling g mk a) (Vm.Alike.refl U.vm) qK, qD⟩, fun U hU hW => ⟨rfl, by rw [hU], by rw [hU]; exact hPc, va_K.moved hW.alike hK, hDc.weaken (fun _ _ _ _ => trivial)⟩⟩ rfl rfl hl.1 rfl (lv_room (Nat.le_of_ble_eq_true rfl)) id_6_72 ⟨Nat.le_of_ble_eq_true rfl, Nat.le_of_ble_eq_true rfl⟩) hS (fun q _ h => hFc q h) hFc (fun u5 t H1 locs ht hvm hw hB hz1 hk1 hS => ?_)
  obtain ⟨hP1, hD1⟩ := hB
  rw [ht] at hP1
  obtain ⟨eu5, hsu5⟩ := hw
  subst eu5
  obtain ⟨hP, hD⟩ := zw_join (w1 := iW_2 cy u5) hP hD hk1 hFc hP1 hD1
  generalize H1 = H at hP hS ⊢
  refine W.widen (k := 38) (n := 694) (by decide) (by decide) ?_
  have hP := zw_swap2P hP
  have hD := zw_swap2D hD
  refine va_astq hx hb hK hP hD hS 1 4 2 2 rfl rfl rfl (tCl 2 (by decide)) (i := 0) (by unfold vp_in; decide) id_6_75 (fun H locs hP hD hS => ?_)
  have hP : va_P D vwCl ((h0, .inr (6, [.ref (u1.1 0), .ref (u2.1 0), .ref (u3.1 0), .ref (u4.1 0), .ref (qi), .null, .null, .null, .null, .long 0])) :: (qi, .inl (cy 104, 2, .inr (.inr (.inr (.inr (va_up (fun _ => none) 0 (some (u5.1 0)))))))) :: (iW_2 cy u5 ++ Y4) : va_W) H := hP
  have hD : va_D A ((h0, .inr (6, [.ref (u1.1 0), .ref (u2.1 0), .ref (u3.1 0), .ref (u4.1 0), .ref (qi), .null, .null, .null, .null, .long 0])) :: (qi, .inl (cy 104, 2, .inr (.inr (.inr (.inr (va_up (fun _ => none) 0 (some (u5.1 0)))))))) :: (iW_2 cy u5 ++ Y4) : va_W) := hD
  obtain ⟨Y5, hY5⟩ : ∃ Z : va_W, Z = iW_2 cy u5 ++ Y4 := ⟨_, rfl⟩
  rw [← hY5] at hP hD
  refine lv_iinc (v := 1) (lv' := [(1, .int 1), (0, .ref h0)]) hx hb id_6_76 hl (k := 0) rfl (by decide) (by decide) rfl (fun ls hl => ?_)
  refine lv_goto (tgt := 58) hx hb id_6_79 (by decide) ?_
  refine lv_iload_n hx hb id_6_58 rfl (lv_at hl 0 rfl) ?_
  refine lv_iconst (v := 2) hx hb id_6_59 (by decide) ?_
  refine lv_icmp_ge (tgt := 82) hx hb id_6_60 (by decide) (fun z => absurd z (by decide)) (fun _ => ?_)
  refine lv_aload_n hx hb id_6_63 rfl (lv_at hl 1 rfl) ?_
  refine va_get (v := .ref qi) hx hb hts (ztIn 6 (by decide)) hown hK hP 0 rfl (tCl 6 (by decide)) 4 (by decide) (hts _ tm_246) (fun _ z => z) rfl id_6_64 ?_
  refine lv_iload_n hx hb id_6_67 rfl (lv_at hl 0 rfl) ?_
  refine va_new (ci := 2) (fs := [.int 0, .int 0, .int 0, .null, .null, .null, .null, .null, .int 0, .null]) hx hb hts (ztIn 2 (by decide)) (tY 2) (tTy 2 (by decide)) hown (hts _ tm_128) (hts _ tm_129) (hts _ tm_4) hK hP hD hS hA (tCl 2 (by decide)) (fun j hj => dfl_2 j hj) (Nat.le_of_ble_eq_true rfl) (Nat.le_of_ble_eq_true rfl) id_6_68 (fun q6 H hP hD hS => ?_)
  refine W.widen (k := 39) (n := 704) (by decide) (by decide) ?_
  refine lv_dup hx hb id_6_71 rfl ?_
  have hPc : va_P D vwCl (iD_2 q6) H := zw_lastP hP
  have hDc : va_D A (iD_2 q6) := zw_lastD hD
  have hFc : ∀ z, va_A (iD_2 q6) H.size z → A z := zw_free hD hS hA
  refine va_callv (va_runI (As := []) (rest := [.ref q6, .int 1, .ref qi]) ⟨hx, hb, hml, hown, hts⟩ (i_2 l cy D q6 H.size) (cwI 0 hts (zgood_in (fun w hw => ii_2 w hw)) rfl rfl rfl (hts _ tm_4) (hts _ tm_130) (hts _ tm_131) rfl (by decide +kernel) ⟨Nat.le_of_ble_eq_true rfl, Nat.le_of_ble_eq_true rfl⟩) ⟨fun a U g mk q => by obtain ⟨q0, q1, qP, qK, qD⟩ := q; exact ⟨q0, q1, qP, va_K.moved (u := U) (U := U.calling g mk a) (Vm.Alike.refl U.vm) qK, qD⟩, fun U hU hW => ⟨rfl, by rw [hU], by rw [hU]; exact hPc, va_K.moved hW.alike hK, hDc.weaken (fun _ _ _ _ => trivial)⟩⟩ rfl rfl hl.1 rfl (lv_room (Nat.le_of_ble_eq_true rfl)) id_6_72 ⟨Nat.le_of_ble_eq_true rfl, Nat.le_of_ble_eq_true rfl⟩) hS (fun q _ h => hFc q h) hFc (fun u6 t H1 locs ht hvm hw hB hz1 hk1 hS => ?_)
  obtain ⟨hP1, hD1⟩ := hB
  rw [ht] at hP1
  obtain ⟨eu6, hsu6⟩ := hw
  subst eu6
  obtain ⟨hP, hD⟩ := zw_join (w1 := iW_2 cy u6) hP hD hk1 hFc hP1 hD1
  generalize H1 = H at hP hS ⊢
  refine W.widen (k := 45) (n := 812) (by decide) (by decide) ?_
  have hP := zw_swap2P hP
  have hD := zw_swap2D hD
  refine va_astq hx hb hK hP hD hS 1 4 2 2 rfl rfl rfl (tCl 2 (by decide)) (i := 1) (by unfold vp_in; decide) id_6_75 (fun H locs hP hD hS => ?_)
  have hP : va_P D vwCl ((h0, .inr (6, [.ref (u1.1 0), .ref (u2.1 0), .ref (u3.1 0), .ref (u4.1 0), .ref (qi), .null, .null, .null, .null, .long 0])) :: (qi, .inl (cy 104, 2, .inr (.inr (.inr (.inr (va_up (va_up (fun _ => none) 0 (some (u5.1 0))) 1 (some (u6.1 0)))))))) :: (iW_2 cy u6 ++ Y5) : va_W) H := hP
  have hD : va_D A ((h0, .inr (6, [.ref (u1.1 0), .ref (u2.1 0), .ref (u3.1 0), .ref (u4.1 0), .ref (qi), .null, .null, .null, .null, .long 0])) :: (qi, .inl (cy 104, 2, .inr (.inr (.inr (.inr (va_up (va_up (fun _ => none) 0 (some (u5.1 0))) 1 (some (u6.1 0)))))))) :: (iW_2 cy u6 ++ Y5) : va_W) := hD
  obtain ⟨Y6, hY6⟩ : ∃ Z : va_W, Z = iW_2 cy u6 ++ Y5 := ⟨_, rfl⟩
  rw [← hY6] at hP hD
  refine lv_iinc (v := 2) (lv' := [(1, .int 2), (0, .ref h0)]) hx hb id_6_76 hl (k := 0) rfl (by decide) (by decide) rfl (fun ls hl => ?_)
  refine lv_goto (tgt := 58) hx hb id_6_79 (by decide) ?_
  refine lv_iload_n hx hb id_6_58 rfl (lv_at hl 0 rfl) ?_
  refine lv_iconst (v := 2) hx hb id_6_59 (by decide) ?_
  refine lv_icmp_ge (tgt := 82) hx hb id_6_60 (by decide) (fun _ => ?_) (fun z => absurd (by decide) z)
  refine lv_aload_n hx hb id_6_82 rfl (lv_at hl 1 rfl) ?_
  refine lv_iconst (v := 2) hx hb id_6_83 (by decide) ?_
  refine zn_boolean hx hb (hts _ tm_211) hK hP hD hS hA (N := 2) (by decide) (by decide) (by decide) (Nat.le_of_ble_eq_true rfl) (Nat.le_of_ble_eq_true rfl) id_6_84 (fun qb H hP hD hS => ?_)
  refine W.widen (k := 46) (n := 814) (by decide) (by decide) ?_
  have hP := zw_swap2P hP
  have hD := zw_swap2D hD
  obtain ⟨Y7, hY7⟩ : ∃ Z : va_W, Z = [(qb, .inl (cy 102, 2, .inl (fun _ => 0)))] ++ Y6 := ⟨_, rfl⟩
  rw [← hY7] at hP hD
  refine va_putF hx hb hts (ztIn 6 (by decide)) (tY 6) (tTy 6 (by decide)) (tNm 6 (by decide)) hown hK hP hD hS 0 rfl (tCl 6 (by decide)) 5 (by decide) (hts _ tm_247) (fun _ z => z) rfl hin rfl (tTy 6 (by decide) 5 (by decide)) rfl rfl (Nat.le_of_ble_eq_true rfl) id_6_86 (fun H locs hP hD hS => ?_)
  have hP : va_P D vwCl ((h0, .inr (6, [.ref (u1.1 0), .ref (u2.1 0), .ref (u3.1 0), .ref (u4.1 0), .ref (qi), .ref (qb), .null, .null, .null, .long 0])) :: (qi, .inl (cy 104, 2, .inr (.inr (.inr (.inr (va_up (va_up (fun _ => none) 0 (some (u5.1 0))) 1 (some (u6.1 0)))))))) :: Y7 : va_W) H := hP
  have hD : va_D A ((h0, .inr (6, [.ref (u1.1 0), .ref (u2.1 0), .ref (u3.1 0), .ref (u4.1 0), .ref (qi), .ref (qb), .null, .null, .null, .long 0])) :: (qi, .inl (cy 104, 2, .inr (.inr (.inr (.inr (va_up (va_up (fun _ => none) 0 (some (u5.1 0))) 1 (some (u6.1 0)))))))) :: Y7 : va_W) := hD
  refine lv_aload_n hx hb id_6_89 rfl (lv_at hl 1 rfl) ?_
  refine va_new (ci := 0) (fs := [.null, .null, .null, .null, .null, .long 0, .long 0]) hx hb hts (ztIn 0 (by decide)) (tY 0) (tTy 0 (by decide)) hown (hts _ tm_177) (hts _ tm_178) (hts _ tm_6) hK hP hD hS hA (tCl 0 (by decide)) (fun j hj => dfl_0 j hj) (Nat.le_of_ble_eq_true rfl) (Nat.le_of_ble_eq_true rfl) id_6_90 (fun q7 H hP hD hS => ?_)
  refine W.widen (k := 47) (n := 821) (by decide) (by decide) ?_
  refine lv_dup hx hb id_6_93 rfl ?_
  have hPc : va_P D vwCl (iD_0 q7) H := zw_lastP hP
  have hDc : va_D A (iD_0 q7) := zw_lastD hD
  have hFc : ∀ z, va_A (iD_0 q7) H.size z → A z := zw_free hD hS hA
  refine va_callv (va_runIN (As := []) (rest := [.ref q7, .ref h0]) ⟨hx, hb, hml, hown, hts⟩ (i_0 l cy D q7 H.size) (⟨va_cnB 0 hts (zgood_in (fun w hw => ii_0 w hw)) rfl rfl rfl (hN.2.2.1) (hts _ tm_6) (by decide +kernel) ⟨Nat.le_of_ble_eq_true rfl, Nat.le_of_ble_eq_true rfl⟩, rfl, hts _ tm_180⟩) ⟨fun a U g mk q => by obtain ⟨q0, q1, qP, qK, qD, qM⟩ := q; exact ⟨q0, q1, qP, va_K.moved (u := U) (U := U.calling g mk a) (Vm.Alike.refl U.vm) qK, qD, qM⟩, fun U hU hW => ⟨rfl, by rw [hU], by rw [hU]; exact hPc, va_K.moved hW.alike hK, hDc.weaken (fun _ _ _ _ => trivial), zM_warm hW hN.2.2.2.2.2.2⟩⟩ rfl rfl hl.1 rfl (lv_room (Nat.le_of_ble_eq_true rfl)) id_6_94 ⟨Nat.le_of_ble_eq_true rfl, Nat.le_of_ble_eq_true rfl⟩) hS (fun q _ h => hFc q h) hFc (fun u7 t H1 locs ht hvm hw hB hz1 hk1 hS => ?_)
  obtain ⟨hP1, hD1⟩ := hB
  rw [ht] at hP1
  obtain ⟨eu7, hsu7⟩ := hw
  subst eu7
  obtain ⟨hP, hD⟩ := zw_join (w1 := iW_0 cy u7) hP hD hk1 hFc hP1 hD1
  generalize H1 = H at hP hS ⊢
  refine W.widen (k := 59) (n := 882) (by decide) (by decide) ?_
  have hP := zw_swap2P hP
  have hD := zw_swap2D hD
  obtain ⟨Y8, hY8⟩ : ∃ Z : va_W, Z = iW_0 cy u7 ++ Y7 := ⟨_, rfl⟩
  rw [← hY8] at hP hD
  refine va_putF hx hb hts (ztIn 6 (by decide)) (tY 6) (tTy 6 (by decide)) (tNm 6 (by decide)) hown hK hP hD hS 0 rfl (tCl 6 (by decide)) 6 (by decide) (hts _ tm_248) (fun _ z => z) rfl hin rfl (tTy 6 (by decide) 6 (by decide)) rfl rfl (Nat.le_of_ble_eq_true rfl) id_6_97 (fun H locs hP hD hS => ?_)
  have hP : va_P D vwCl ((h0, .inr (6, [.ref (u1.1 0), .ref (u2.1 0), .ref (u3.1 0), .ref (u4.1 0), .ref (qi), .ref (qb), .ref (u7.1 0), .null, .null, .long 0])) :: (qi, .inl (cy 104, 2, .inr (.inr (.inr (.inr (va_up (va_up (fun _ => none) 0 (some (u5.1 0))) 1 (some (u6.1 0)))))))) :: Y8 : va_W) H := hP
  have hD : va_D A ((h0, .inr (6, [.ref (u1.1 0), .ref (u2.1 0), .ref (u3.1 0), .ref (u4.1 0), .ref (qi), .ref (qb), .ref (u7.1 0), .null, .null, .long 0])) :: (qi, .inl (cy 104, 2, .inr (.inr (.inr (.inr (va_up (va_up (fun _ => none) 0 (some (u5.1 0))) 1 (some (u6.1 0)))))))) :: Y8 : va_W) := hD
  refine lv_aload_n hx hb id_6_100 rfl (lv_at hl 1 rfl) ?_
  refine va_new (ci := 1) (fs := [.int 0, .int 0, .null]) hx hb hts (ztIn 1 (by decide)) (tY 1) (tTy 1 (by decide)) hown (hts _ tm_213) (hts _ tm_214) (hts _ tm_7) hK hP hD hS hA (tCl 1 (by decide)) (fun j hj => dfl_1 j hj) (Nat.le_of_ble_eq_true rfl) (Nat.le_of_ble_eq_true rfl) id_6_101 (fun q8 H hP hD hS => ?_)
  refine W.widen (k := 60) (n := 885) (by decide) (by decide) ?_
  refine lv_dup hx hb id_6_104 rfl ?_
  have hPc : va_P D vwCl (iD_1 q8) H := zw_lastP hP
  have hDc : va_D A (iD_1 q8) := zw_lastD hD
  have hFc : ∀ z, va_A (iD_1 q8) H.size z → A z := zw_free hD hS hA
  refine va_callv (va_runIN (As := []) (rest := [.ref q8, .ref h0]) ⟨hx, hb, hml, hown, hts⟩ (i_1 l cy D q8 H.size) (⟨va_cnB 0 hts (zgood_in (fun w hw => ii_1 w hw)) rfl rfl rfl (hN.2.2.2.1) (hts _ tm_7) (by decide +kernel) ⟨Nat.le_of_ble_eq_true rfl, Nat.le_of_ble_eq_true rfl⟩, rfl, hts _ tm_216⟩) ⟨fun a U g mk q => by obtain ⟨q0, q1, qP, qK, qD⟩ := q; exact ⟨q0, q1, qP, va_K.moved (u := U) (U := U.calling g mk a) (Vm.Alike.refl U.vm) qK, qD⟩, fun U hU hW => ⟨rfl, by rw [hU], by rw [hU]; exact hPc, va_K.moved hW.alike hK, hDc.weaken (fun _ _ _ _ => trivial)⟩⟩ rfl rfl hl.1 rfl (lv_room (Nat.le_of_ble_eq_true rfl)) id_6_105 ⟨Nat.le_of_ble_eq_true rfl, Nat.le_of_ble_eq_true rfl⟩) hS (fun q _ h => hFc q h) hFc (fun u8 t H1 locs ht hvm hw hB hz1 hk1 hS => ?_)
  obtain ⟨hP1, hD1⟩ := hB
  rw [ht] at hP1
  obtain ⟨eu8, hsu8⟩ := hw
  subst eu8
  obtain ⟨hP, hD⟩ := zw_join (w1 := iW_1 cy u8) hP hD hk1 hFc hP1 hD1
  generalize H1 = H at hP hS ⊢
  refine W.widen (k := 61) (n := 893) (by decide) (by decide) ?_
  have hP := zw_swap2P hP
  have hD := zw_swap2D hD
  obtain ⟨Y9, hY9⟩ : ∃ Z : va_W, Z = iW_1 cy u8 ++ Y8 := ⟨_, rfl⟩
  rw [← hY9] at hP hD
  refine va_putF hx hb hts (ztIn 6 (by decide)) (tY 6) (tTy 6 (by decide)) (tNm 6 (by decide)) hown hK hP hD hS 0 rfl (tCl 6 (by decide)) 7 (by decide) (hts _ tm_249) (fun _ z => z) rfl hin rfl (tTy 6 (by decide) 7 (by decide)) rfl rfl (Nat.le_of_ble_eq_true rfl) id_6_108 (fun H locs hP hD hS => ?_)
  have hP : va_P D vwCl ((h0, .inr (6, [.ref (u1.1 0), .ref (u2.1 0), .ref (u3.1 0), .ref (u4.1 0), .ref (qi), .ref (qb), .ref (u7.1 0), .ref (u8.1 0), .null, .long 0])) :: (qi, .inl (cy 104, 2, .inr (.inr (.inr (.inr (va_up (va_up (fun _ => none) 0 (some (u5.1 0))) 1 (some (u6.1 0)))))))) :: Y9 : va_W) H := hP
  have hD : va_D A ((h0, .inr (6, [.ref (u1.1 0), .ref (u2.1 0), .ref (u3.1 0), .ref (u4.1 0), .ref (qi), .ref (qb), .ref (u7.1 0), .ref (u8.1 0), .null, .long 0])) :: (qi, .inl (cy 104, 2, .inr (.inr (.inr (.inr (va_up (va_up (fun _ => none) 0 (some (u5.1 0))) 1 (some (u6.1 0)))))))) :: Y9 : va_W) := hD
  refine lv_aload_n hx hb id_6_111 rfl (lv_at hl 1 rfl) ?_
  refine va_new (ci := 3) (fs := [.null]) hx hb hts (ztIn 3 (by decide)) (tY 3) (tTy 3 (by decide)) hown (hts _ tm_231) (hts _ tm_232) (hts _ tm_8) hK hP hD hS hA (tCl 3 (by decide)) (fun j hj => dfl_3 j hj) (Nat.le_of_ble_eq_true rfl) (Nat.le_of_ble_eq_true rfl) id_6_112 (fun q9 H hP hD hS => ?_)
  refine W.widen (k := 62) (n := 894) (by decide) (by decide) ?_
  refine lv_dup hx hb id_6_115 rfl ?_
  have hPc : va_P D vwCl (iD_3 q9) H := zw_lastP hP
  have hDc : va_D A (iD_3 q9) := zw_lastD hD
  have hFc : ∀ z, va_A (iD_3 q9) H.size z → A z := zw_free hD hS hA
  refine va_callv (va_runIN (As := []) (rest := [.ref q9, .ref h0]) ⟨hx, hb, hml, hown, hts⟩ (i_3 l cy D q9 H.size) (⟨va_cnB 0 hts (zgood_in (fun w hw => ii_3 w hw)) rfl rfl rfl (hN.2.2.2.2.1) (hts _ tm_8) (by decide +kernel) ⟨Nat.le_of_ble_eq_true rfl, Nat.le_of_ble_eq_true rfl⟩, rfl, hts _ tm_234⟩) ⟨fun a U g mk q => by obtain ⟨q0, q1, qP, qK, qD⟩ := q; exact ⟨q0, q1, qP, va_K.moved (u := U) (U := U.calling g mk a) (Vm.Alike.refl U.vm) qK, qD⟩, fun U hU hW => ⟨rfl, by rw [hU], by rw [hU]; exact hPc, va_K.moved hW.alike hK, hDc.weaken (fun _ _ _ _ => trivial)⟩⟩ rfl rfl hl.1 rfl (lv_room (Nat.le_of_ble_eq_true rfl)) id_6_116 ⟨Nat.le_of_ble_eq_true rfl, Nat.le_of_ble_eq_true rfl⟩) hS (fun q _ h => hFc q h) hFc (fun u9 t H1 locs ht hvm hw hB hz1 hk1 hS => ?_)
  obtain ⟨hP1, hD1⟩ := hB
  rw [ht] at hP1
  obtain ⟨eu9, hsu9⟩ := hw
  subst eu9
  obtain ⟨hP, hD⟩ := zw_join (w1 := iW_3 cy u9) hP hD hk1 hFc hP1 hD1
  generalize H1 = H at hP hS ⊢
  refine W.widen (k := 63) (n := 902) (by decide) (by decide) ?_
  have hP := zw_swap2P hP
  have hD := zw_swap2D hD
  obtain ⟨Y10, hY10⟩ : ∃ Z : va_W, Z = iW_3 cy u9 ++ Y9 := ⟨_, rfl⟩
  rw [← hY10] at hP hD
  refine va_putF hx hb hts (ztIn 6 (by decide)) (tY 6) (tTy 6 (by decide)) (tNm 6 (by decide)) hown hK hP hD hS 0 rfl (tCl 6 (by decide)) 8 (by decide) (hts _ tm_250) (fun _ z => z) rfl hin rfl (tTy 6 (by decide) 8 (by decide)) rfl rfl (Nat.le_of_ble_eq_true rfl) id_6_119 (fun H locs hP hD hS => ?_)
  have hP : va_P D vwCl ((h0, .inr (6, [.ref (u1.1 0), .ref (u2.1 0), .ref (u3.1 0), .ref (u4.1 0), .ref (qi), .ref (qb), .ref (u7.1 0), .ref (u8.1 0), .ref (u9.1 0), .long 0])) :: (qi, .inl (cy 104, 2, .inr (.inr (.inr (.inr (va_up (va_up (fun _ => none) 0 (some (u5.1 0))) 1 (some (u6.1 0)))))))) :: Y10 : va_W) H := hP
  have hD : va_D A ((h0, .inr (6, [.ref (u1.1 0), .ref (u2.1 0), .ref (u3.1 0), .ref (u4.1 0), .ref (qi), .ref (qb), .ref (u7.1 0), .ref (u8.1 0), .ref (u9.1 0), .long 0])) :: (qi, .inl (cy 104, 2, .inr (.inr (.inr (.inr (va_up (va_up (fun _ => none) 0 (some (u5.1 0))) 1 (some (u6.1 0)))))))) :: Y10 : va_W) := hD
  subst hY10 hY9 hY8 hY7 hY6 hY5 hY4 hY3 hY2 hY1
  exact W.vret hx hb hr (fun t ht hW => ⟨⟨(fun k => [u1, u1, u2, u3, u4, u5, u6, u7, u8, u9].getD k u1, (qi, qb)), rfl, ⟨hsu4, hsu5, hsu6⟩, by rw [ht]; exact hP, hD⟩, hS.F ht⟩) hS.2.2 id_6_122
