/-! ===== String.length, String.charAt: walked with the kit ===== -/
abbrev sc_len : ByteArray := prog_12_method_54_code
def sy_len : MethodName := ⟨"java/lang/String", "length", "()I"⟩
def sw_len : List Cond := Cond.code sy_len sc_len 1 (some .int) :: ztb
theorem si_len : ∀ w ∈ sw_len, w ∈ ztb := fun w hw => by
  rcases List.mem_cons.mp hw with rfl | hw
  · exact zin (List.mem_append_right _ (List.mem_of_getElem? (i := 327) (by decide +kernel))) rfl
  · exact hw
theorem sd_len_0 : decode sc_len 0 = .ok (.aload_n 0, 1) := by decide +kernel
theorem sd_len_1 : decode sc_len 1 = .ok (.getfield 9, 3) := by decide +kernel
theorem sd_len_4 : decode sc_len 4 = .ok (.arraylength, 1) := by decide +kernel
theorem sd_len_5 : decode sc_len 5 = .ok (.aload_n 0, 1) := by decide +kernel
theorem sd_len_6 : decode sc_len 6 = .ok (.invokevirtual 335, 3) := by decide +kernel
theorem sd_len_9 : decode sc_len 9 = .ok (.ishr, 1) := by decide +kernel
theorem sd_len_10 : decode sc_len 10 = .ok (.ireturn, 1) := by decide +kernel
abbrev sc_cod : ByteArray := prog_12_method_152_code
def sy_cod : MethodName := ⟨"java/lang/String", "coder", "()B"⟩
def sw_cod : List Cond := Cond.code sy_cod sc_cod 1 (some .byte) :: ztb
theorem si_cod : ∀ w ∈ sw_cod, w ∈ ztb := fun w hw => by
  rcases List.mem_cons.mp hw with rfl | hw
  · exact zin (List.mem_append_right _ (List.mem_of_getElem? (i := 331) (by decide +kernel))) rfl
  · exact hw
theorem sd_cod_0 : decode sc_cod 0 = .ok (.getstatic 38, 3) := by decide +kernel
theorem sd_cod_3 : decode sc_cod 3 = .ok (.ifCond .eq 10, 3) := by decide +kernel
theorem sd_cod_6 : decode sc_cod 6 = .ok (.aload_n 0, 1) := by decide +kernel
theorem sd_cod_7 : decode sc_cod 7 = .ok (.getfield 15, 3) := by decide +kernel
theorem sd_cod_10 : decode sc_cod 10 = .ok (.goto 4, 3) := by decide +kernel
theorem sd_cod_13 : decode sc_cod 13 = .ok (.iconst 1, 1) := by decide +kernel
theorem sd_cod_14 : decode sc_cod 14 = .ok (.ireturn, 1) := by decide +kernel
abbrev sc_cha : ByteArray := prog_12_method_56_code
def sy_cha : MethodName := ⟨"java/lang/String", "charAt", "(I)C"⟩
def sw_cha : List Cond := Cond.code sy_cha sc_cha 2 (some .char) :: ztb
theorem si_cha : ∀ w ∈ sw_cha, w ∈ ztb := fun w hw => by
  rcases List.mem_cons.mp hw with rfl | hw
  · exact zin (List.mem_append_right _ (List.mem_of_getElem? (i := 337) (by decide +kernel))) rfl
  · exact hw
theorem sd_cha_0 : decode sc_cha 0 = .ok (.aload_n 0, 1) := by decide +kernel
theorem sd_cha_1 : decode sc_cha 1 = .ok (.invokevirtual 492, 3) := by decide +kernel
theorem sd_cha_4 : decode sc_cha 4 = .ok (.ifCond .eq 12, 3) := by decide +kernel
theorem sd_cha_7 : decode sc_cha 7 = .ok (.aload_n 0, 1) := by decide +kernel
theorem sd_cha_8 : decode sc_cha 8 = .ok (.getfield 9, 3) := by decide +kernel
theorem sd_cha_11 : decode sc_cha 11 = .ok (.iload_n 1, 1) := by decide +kernel
theorem sd_cha_12 : decode sc_cha 12 = .ok (.invokestatic 495, 3) := by decide +kernel
theorem sd_cha_15 : decode sc_cha 15 = .ok (.ireturn, 1) := by decide +kernel
theorem sd_cha_16 : decode sc_cha 16 = .ok (.aload_n 0, 1) := by decide +kernel
theorem sd_cha_17 : decode sc_cha 17 = .ok (.getfield 9, 3) := by decide +kernel
theorem sd_cha_20 : decode sc_cha 20 = .ok (.iload_n 1, 1) := by decide +kernel
theorem sd_cha_21 : decode sc_cha 21 = .ok (.invokestatic 498, 3) := by decide +kernel
theorem sd_cha_24 : decode sc_cha 24 = .ok (.ireturn, 1) := by decide +kernel
abbrev sc_lat : ByteArray := prog_12_method_154_code
def sy_lat : MethodName := ⟨"java/lang/String", "isLatin1", "()Z"⟩
def sw_lat : List Cond := Cond.code sy_lat sc_lat 1 (some .boolean) :: ztb
theorem si_lat : ∀ w ∈ sw_lat, w ∈ ztb := fun w hw => by
  rcases List.mem_cons.mp hw with rfl | hw
  · exact zin (List.mem_append_right _ (List.mem_of_getElem? (i := 341) (by decide +kernel))) rfl
  · exact hw
theorem sd_lat_0 : decode sc_lat 0 = .ok (.getstatic 38, 3) := by decide +kernel
theorem sd_lat_3 : decode sc_lat 3 = .ok (.ifCond .eq 14, 3) := by decide +kernel
theorem sd_lat_6 : decode sc_lat 6 = .ok (.aload_n 0, 1) := by decide +kernel
theorem sd_lat_7 : decode sc_lat 7 = .ok (.getfield 15, 3) := by decide +kernel
theorem sd_lat_10 : decode sc_lat 10 = .ok (.ifCond .ne 7, 3) := by decide +kernel
theorem sd_lat_13 : decode sc_lat 13 = .ok (.iconst 1, 1) := by decide +kernel
theorem sd_lat_14 : decode sc_lat 14 = .ok (.goto 4, 3) := by decide +kernel
theorem sd_lat_17 : decode sc_lat 17 = .ok (.iconst 0, 1) := by decide +kernel
theorem sd_lat_18 : decode sc_lat 18 = .ok (.ireturn, 1) := by decide +kernel
abbrev sc_ch1 : ByteArray := prog_13_method_2_code
def sy_ch1 : MethodName := ⟨"java/lang/StringLatin1", "charAt", "([BI)C"⟩
def sw_ch1 : List Cond := Cond.code sy_ch1 sc_ch1 2 (some .char) :: ztb
theorem si_ch1 : ∀ w ∈ sw_ch1, w ∈ ztb := fun w hw => by
  rcases List.mem_cons.mp hw with rfl | hw
  · exact zin (List.mem_append_right _ (List.mem_of_getElem? (i := 344) (by decide +kernel))) rfl
  · exact hw
theorem sd_ch1_0 : decode sc_ch1 0 = .ok (.iload_n 1, 1) := by decide +kernel
theorem sd_ch1_1 : decode sc_ch1 1 = .ok (.aload_n 0, 1) := by decide +kernel
theorem sd_ch1_2 : decode sc_ch1 2 = .ok (.arraylength, 1) := by decide +kernel
theorem sd_ch1_3 : decode sc_ch1 3 = .ok (.invokestatic 9, 3) := by decide +kernel
theorem sd_ch1_6 : decode sc_ch1 6 = .ok (.aload_n 0, 1) := by decide +kernel
theorem sd_ch1_7 : decode sc_ch1 7 = .ok (.iload_n 1, 1) := by decide +kernel
theorem sd_ch1_8 : decode sc_ch1 8 = .ok (.baload, 1) := by decide +kernel
theorem sd_ch1_9 : decode sc_ch1 9 = .ok (.sipush 255, 3) := by decide +kernel
theorem sd_ch1_12 : decode sc_ch1 12 = .ok (.iand, 1) := by decide +kernel
theorem sd_ch1_13 : decode sc_ch1 13 = .ok (.i2c, 1) := by decide +kernel
theorem sd_ch1_14 : decode sc_ch1 14 = .ok (.ireturn, 1) := by decide +kernel
abbrev sc_chk : ByteArray := prog_12_method_155_code
def sy_chk : MethodName := ⟨"java/lang/String", "checkIndex", "(II)V"⟩
def sw_chk : List Cond := Cond.code sy_chk sc_chk 2 none :: ztb
theorem si_chk : ∀ w ∈ sw_chk, w ∈ ztb := fun w hw => by
  rcases List.mem_cons.mp hw with rfl | hw
  · exact zin (List.mem_append_right _ (List.mem_of_getElem? (i := 347) (by decide +kernel))) rfl
  · exact hw
theorem sd_chk_0 : decode sc_chk 0 = .ok (.iload_n 0, 1) := by decide +kernel
theorem sd_chk_1 : decode sc_chk 1 = .ok (.iload_n 1, 1) := by decide +kernel
theorem sd_chk_2 : decode sc_chk 2 = .ok (.getstatic 1053, 3) := by decide +kernel
theorem sd_chk_5 : decode sc_chk 5 = .ok (.invokestatic 1059, 3) := by decide +kernel
theorem sd_chk_8 : decode sc_chk 8 = .ok (.pop, 1) := by decide +kernel
theorem sd_chk_9 : decode sc_chk 9 = .ok (.return_, 1) := by decide +kernel
abbrev sc_ck3 : ByteArray := prog_17_method_11_code
def sy_ck3 : MethodName := ⟨"jdk/internal/util/Preconditions", "checkIndex", "(IILjava/util/function/BiFunction;)I"⟩
def sw_ck3 : List Cond := Cond.code sy_ck3 sc_ck3 3 (some .int) :: ztb
theorem si_ck3 : ∀ w ∈ sw_ck3, w ∈ ztb := fun w hw => by
  rcases List.mem_cons.mp hw with rfl | hw
  · exact zin (List.mem_append_right _ (List.mem_of_getElem? (i := 352) (by decide +kernel))) rfl
  · exact hw
theorem sd_ck3_0 : decode sc_ck3 0 = .ok (.iload_n 0, 1) := by decide +kernel
theorem sd_ck3_1 : decode sc_ck3 1 = .ok (.ifCond .lt 8, 3) := by decide +kernel
theorem sd_ck3_4 : decode sc_ck3 4 = .ok (.iload_n 0, 1) := by decide +kernel
theorem sd_ck3_5 : decode sc_ck3 5 = .ok (.iload_n 1, 1) := by decide +kernel
theorem sd_ck3_6 : decode sc_ck3 6 = .ok (.if_icmp .lt 10, 3) := by decide +kernel
theorem sd_ck3_9 : decode sc_ck3 9 = .ok (.aload_n 2, 1) := by decide +kernel
theorem sd_ck3_10 : decode sc_ck3 10 = .ok (.iload_n 0, 1) := by decide +kernel
theorem sd_ck3_11 : decode sc_ck3 11 = .ok (.iload_n 1, 1) := by decide +kernel
theorem sd_ck3_12 : decode sc_ck3 12 = .ok (.invokestatic 95, 3) := by decide +kernel
theorem sd_ck3_15 : decode sc_ck3 15 = .ok (.athrow, 1) := by decide +kernel
theorem sd_ck3_16 : decode sc_ck3 16 = .ok (.iload_n 0, 1) := by decide +kernel
theorem sd_ck3_17 : decode sc_ck3 17 = .ok (.ireturn, 1) := by decide +kernel
theorem st_val : Jvm.Cond.fieldLink "java/lang/String" (9 : Nat) "java/lang/String" "value" "[B" ∈ ztb := zin (List.mem_append_right _ (List.mem_of_getElem? (i := 1049) (by decide +kernel))) rfl
theorem st_cs : Jvm.Cond.fieldLink "java/lang/String" (38 : Nat) "java/lang/String" "COMPACT_STRINGS" "Z" ∈ ztb := zin (List.mem_append_right _ (List.mem_of_getElem? (i := 332) (by decide +kernel))) rfl
theorem st_cdr : Jvm.Cond.fieldLink "java/lang/String" (15 : Nat) "java/lang/String" "coder" "B" ∈ ztb := zin (List.mem_append_right _ (List.mem_of_getElem? (i := 1050) (by decide +kernel))) rfl
theorem st_fmt : Jvm.Cond.fieldLink "java/lang/String" (1053 : Nat) "jdk/internal/util/Preconditions" "SIOOBE_FORMATTER" "Ljava/util/function/BiFunction;" ∈ ztb := zin (List.mem_append_right _ (List.mem_of_getElem? (i := 348) (by decide +kernel))) rfl
theorem st_l335 : Jvm.Cond.methodLink "java/lang/String" (335 : Nat) ({ cls := "java/lang/String", name := "coder", desc := "()B" } : Jvm.MethodName) ∈ ztb := zin (List.mem_append_right _ (List.mem_of_getElem? (i := 328) (by decide +kernel))) rfl
theorem st_l492 : Jvm.Cond.methodLink "java/lang/String" (492 : Nat) ({ cls := "java/lang/String", name := "isLatin1", desc := "()Z" } : Jvm.MethodName) ∈ ztb := zin (List.mem_append_right _ (List.mem_of_getElem? (i := 338) (by decide +kernel))) rfl
theorem st_l495 : Jvm.Cond.methodLink "java/lang/String" (495 : Nat) ({ cls := "java/lang/StringLatin1", name := "charAt", desc := "([BI)C" } : Jvm.MethodName) ∈ ztb := zin (List.mem_append_right _ (List.mem_of_getElem? (i := 342) (by decide +kernel))) rfl
theorem st_l1059 : Jvm.Cond.methodLink "java/lang/String" (1059 : Nat) ({ cls := "jdk/internal/util/Preconditions", name := "checkIndex", desc := "(IILjava/util/function/BiFunction;)I" } : Jvm.MethodName) ∈ ztb := zin (List.mem_append_right _ (List.mem_of_getElem? (i := 350) (by decide +kernel))) rfl
theorem st_l9 : Jvm.Cond.methodLink "java/lang/StringLatin1" (9 : Nat) ({ cls := "java/lang/String", name := "checkIndex", desc := "(II)V" } : Jvm.MethodName) ∈ ztb := zin (List.mem_append_right _ (List.mem_of_getElem? (i := 345) (by decide +kernel))) rfl
theorem st_in_cod : Jvm.Cond.instanceMethod ({ cls := "java/lang/String", name := "coder", desc := "()B" } : Jvm.MethodName) ∈ ztb := zin (List.mem_append_right _ (List.mem_of_getElem? (i := 329) (by decide +kernel))) rfl
theorem st_se_cod : Jvm.Cond.selects "java/lang/String" ({ cls := "java/lang/String", name := "coder", desc := "()B" } : Jvm.MethodName) ({ cls := "java/lang/String", name := "coder", desc := "()B" } : Jvm.MethodName) ∈ ztb := zin (List.mem_append_right _ (List.mem_of_getElem? (i := 330) (by decide +kernel))) rfl
theorem st_in_lat : Jvm.Cond.instanceMethod ({ cls := "java/lang/String", name := "isLatin1", desc := "()Z" } : Jvm.MethodName) ∈ ztb := zin (List.mem_append_right _ (List.mem_of_getElem? (i := 339) (by decide +kernel))) rfl
theorem st_se_lat : Jvm.Cond.selects "java/lang/String" ({ cls := "java/lang/String", name := "isLatin1", desc := "()Z" } : Jvm.MethodName) ({ cls := "java/lang/String", name := "isLatin1", desc := "()Z" } : Jvm.MethodName) ∈ ztb := zin (List.mem_append_right _ (List.mem_of_getElem? (i := 340) (by decide +kernel))) rfl
theorem st_sx_ch1 : Jvm.Cond.static ({ cls := "java/lang/StringLatin1", name := "charAt", desc := "([BI)C" } : Jvm.MethodName) ∈ ztb := zin (List.mem_append_right _ (List.mem_of_getElem? (i := 343) (by decide +kernel))) rfl
theorem st_sx_chk : Jvm.Cond.static ({ cls := "java/lang/String", name := "checkIndex", desc := "(II)V" } : Jvm.MethodName) ∈ ztb := zin (List.mem_append_right _ (List.mem_of_getElem? (i := 346) (by decide +kernel))) rfl
theorem st_sx_ck3 : Jvm.Cond.static ({ cls := "jdk/internal/util/Preconditions", name := "checkIndex", desc := "(IILjava/util/function/BiFunction;)I" } : Jvm.MethodName) ∈ ztb := zin (List.mem_append_right _ (List.mem_of_getElem? (i := 351) (by decide +kernel))) rfl
theorem st_ini0 : Jvm.Cond.initialized "java/lang/String" ∈ ztb := zin (List.mem_append_right _ (List.mem_of_getElem? (i := 11) (by decide +kernel))) rfl
theorem st_ini1 : Jvm.Cond.initialized "java/lang/StringLatin1" ∈ ztb := zin (List.mem_append_right _ (List.mem_of_getElem? (i := 12) (by decide +kernel))) rfl
theorem st_ini3 : Jvm.Cond.initialized "jdk/internal/util/Preconditions" ∈ ztb := zin (List.mem_append_right _ (List.mem_of_getElem? (i := 13) (by decide +kernel))) rfl
theorem zby255 : ∀ i, i < 3 → ∀ b ∈ zby.getD i [], b &&& 255 = b := by decide +kernel
theorem yl_shr : ∀ i, i < 3 → Int32.ofNat ([6, 3, 5].getD i 0) >>> ((0 : Int32) &&& 31) = Int32.ofNat (ylen i) := by decide +kernel
theorem yl31 : ∀ i, i < 3 → [6, 3, 5].getD i 0 < 2 ^ 31 := by decide +kernel
def sPre (ad : Nat → Nat) (A : Nat → Prop) (as : List Value) : Array Value → State → Prop := va_Pc as (fun U => zX ad A U U.heap)
def sQc (r : Option Value) : Array Value → State → Outcome → State → Prop := fun _ st oc t => oc = .returned r ∧ t.heap = st.heap
theorem sPre.blind {ad : Nat → Nat} {A : Nat → Prop} {as : List Value} : FrameBlind (sPre ad A as) := by
  intro a U g mk q
  obtain ⟨q0, qX⟩ := q
  exact ⟨q0, zX.same (s := U) (U := U.calling g mk a) rfl qX⟩
theorem sPre0.blind {as : List Value} : FrameBlind (va_Pc as (fun _ => True)) := by
  intro a U g mk q
  exact ⟨q.1, trivial⟩
section SCALL
variable {p : Program} {l : Launch} {e : Env} {R : Room} {s : State} {m : MethodId} {args : Array Value} {below : List Frame} {meth : Method} {c : Code} {H : Heap} {locs : List Loc} {cells slots : Nat} {Q : State → Prop} {pc : Nat} {ls : Array Slot} {rest st0 : List Value} {A A1 : Nat → Prop} {H0 : Heap} {rv : Option Value} {a : Array Value}
theorem sCall (hr : va_Run p l e R s m args below meth c H locs cells slots 0 0 (F0 m pc ls st0) rest (sQc rv a) A1) (hS : va_S A H0 H locs) (hA : ∀ q, A1 q → A q)
    (kk : ∀ locs1, va_S A H0 H locs1 → W p l e R s m args below meth c H locs1 cells slots Q (F0 m (pc + 3) ls (rv.toList ++ rest))) : W p l e R s m args below meth c H locs cells slots Q (F0 m pc ls st0) := by
  intro T hT X
  obtain ⟨v, st₀, t, T', L, h0, X', hL, e1, e2, ⟨hv, hh⟩, st⟩ := hr T hT X
  cases hv
  have hH : T'.heap = H := by rw [e1, hh, h0]
  obtain ⟨t2, a1, b1⟩ := kk (locs ++ L) ⟨hS.1, hS.2.1, fun q hq => by
      rcases List.mem_append.mp hq with h | h
      · exact hS.2.2 q h
      · exact hA _ (hL q h)⟩ T' hH X'
  exact ⟨t2, st t2 a1, b1⟩
end SCALL
set_option maxRecDepth 20000 in
theorem s_ck3 (l : Launch) (d : Nat) (j n : Int32) (v : Value) (hv1 : v.category = 1) (h0 : ¬ j < 0) (h1 : j < n) (A : Nat → Prop) : Met l sy_ck3 sw_ck3 (zrm_room (d + 1)) (va_Pc [.int j, .int n, v] (fun _ => True)) (sQc (some (.int j))) 0 0 A := by
  refine Met.ofW (cc := sc_ck3) (maxL := 3) (ret := some .int) (by decide) rfl ?_
  intro p e s m args below meth c s₁ B hml hv
  obtain ⟨rfl, -⟩ := hv
  have hx := B.exec
  have hb := B.bytes
  have hr := B.returns
  have hlocks := B.notSynchronized
  have hg : (lg_sl ([.int j, .int n, v] : List Value)).length ≤ 3 := by
    cases v <;> first | exact Nat.le_of_ble_eq_true rfl | (exact absurd hv1 (show ¬ (2 : Nat) = 1 by decide))
  have hl := lv_entry ([.int j, .int n, v]) (n := 3) hg
  rw [lg_entry_eq]
  generalize (lg_sl ([.int j, .int n, v] : List Value) ++ List.replicate (3 - (lg_sl ([.int j, .int n, v] : List Value)).length) Slot.unset).toArray = ls at hl ⊢
  have hl0 : ls[0]? = some (.val (.int j)) := hl.2.2 (0, .int j) (by exact List.mem_cons_self)
  have hl1 : ls[1]? = some (.val (.int n)) := hl.2.2 (1, .int n) (by exact List.mem_cons_of_mem _ List.mem_cons_self)
  have hS : va_S A s.heap s.heap [] := va_S.rf
  refine lv_iload_n hx hb sd_ck3_0 rfl hl0 ?_
  refine lv_if_lt (tgt := 9) hx hb sd_ck3_1 (by decide) (fun z => absurd z h0) (fun _ => ?_)
  refine lv_iload_n hx hb sd_ck3_4 rfl hl0 ?_
  refine lv_iload_n hx hb sd_ck3_5 rfl hl1 ?_
  refine lv_icmp_lt (tgt := 16) hx hb sd_ck3_6 (by decide) (fun _ => ?_) (fun z => absurd h1 z)
  refine lv_iload_n hx hb sd_ck3_16 rfl hl0 ?_
  exact W.iret (v := j) hx hb hr (fun t ht _ => ⟨rfl, ht⟩) hS.2.2 sd_ck3_17
set_option maxRecDepth 20000 in
theorem s_chk (l : Launch) (d : Nat) (ad : Nat → Nat) (j n : Int32) (h0 : ¬ j < 0) (h1 : j < n) (A : Nat → Prop) : Met l sy_chk sw_chk (zrm_room (d + 2)) (sPre ad A [.int j, .int n]) (sQc none) 0 0 A := by
  refine Met.ofW (cc := sc_chk) (maxL := 2) (ret := none) (by decide) rfl ?_
  intro p e s m args below meth c s₁ B hml hv
  obtain ⟨rfl, hX⟩ := hv
  have hx := B.exec
  have hb := B.bytes
  have hr := B.returns
  have hlocks := B.notSynchronized
  have hts : ∀ w ∈ ztb, w.before ([.int j, .int n] : List Value).toArray s = true := fun w hw => atoms_spec (ws := sw_chk) B.pre w (List.mem_cons_of_mem _ hw)
  have hown : s.vm.findClass "java/lang/String" = some m.cls := findClass_of_methodNamed B.named
  have hl := lv_entry ([.int j, .int n]) (n := 2) (Nat.le_of_ble_eq_true rfl)
  rw [lg_entry_eq]
  generalize (lg_sl ([.int j, .int n] : List Value) ++ List.replicate (2 - (lg_sl ([.int j, .int n] : List Value)).length) Slot.unset).toArray = ls at hl ⊢
  have hl : lv_has ls 2 [(0, .int j), (1, .int n)] := hl
  have hS : va_S A s.heap s.heap [] := va_S.rf
  refine lv_iload_n hx hb sd_chk_0 rfl (lv_at hl 0 rfl) ?_
  refine lv_iload_n hx hb sd_chk_1 rfl (lv_at hl 1 rfl) ?_
  rcases hX.2.2.2 with hz | ⟨q, hz⟩
  · refine va_gets hx hb hz hS hown (hts _ st_fmt) (fun _ h => h) sd_chk_2 ?_
    refine sCall (va_runS (As := [.int j, .int n, .null]) (rest := []) ⟨hx, hb, hml, hown, hts⟩ (s_ck3 l d j n .null rfl h0 h1 A) (va_cwS 3 hts (zgood_in (fun w hw => by
      unfold va_wsS at hw
      rcases List.mem_append.mp hw with hw | hw
      · simp only [List.mem_cons, List.not_mem_nil, or_false] at hw
        rcases hw with rfl | rfl | rfl
        · exact st_l1059
        · exact st_sx_ck3
        · exact st_ini3
      · exact si_ck3 w hw)) rfl rfl rfl (by decide +kernel) ⟨Nat.le_refl _, by show 8 + (3 + 11) + 35 * (d + 1) ≤ 35 * (d + 2); omega⟩) ⟨sPre0.blind, fun U hU hW => ⟨rfl, trivial⟩⟩ rfl rfl hl.1 rfl (lv_room (Nat.le_of_ble_eq_true rfl)) sd_chk_5 ⟨Nat.le_refl _, Nat.le_refl _⟩) hS (fun _ h => h) (fun locs1 hS => ?_)
    refine lv_pop hx hb sd_chk_8 rfl ?_
    exact W.vret hx hb hr (fun t ht _ => ⟨rfl, ht⟩) hS.2.2 sd_chk_9
  · refine va_gets hx hb hz hS hown (hts _ st_fmt) (fun _ h => h) sd_chk_2 ?_
    refine sCall (va_runS (As := [.int j, .int n, .ref q]) (rest := []) ⟨hx, hb, hml, hown, hts⟩ (s_ck3 l d j n (.ref q) rfl h0 h1 A) (va_cwS 3 hts (zgood_in (fun w hw => by
      unfold va_wsS at hw
      rcases List.mem_append.mp hw with hw | hw
      · simp only [List.mem_cons, List.not_mem_nil, or_false] at hw
        rcases hw with rfl | rfl | rfl
        · exact st_l1059
        · exact st_sx_ck3
        · exact st_ini3
      · exact si_ck3 w hw)) rfl rfl rfl (by decide +kernel) ⟨Nat.le_refl _, by show 8 + (3 + 11) + 35 * (d + 1) ≤ 35 * (d + 2); omega⟩) ⟨sPre0.blind, fun U hU hW => ⟨rfl, trivial⟩⟩ rfl rfl hl.1 rfl (lv_room (Nat.le_of_ble_eq_true rfl)) sd_chk_5 ⟨Nat.le_refl _, Nat.le_refl _⟩) hS (fun _ h => h) (fun locs1 hS => ?_)
    refine lv_pop hx hb sd_chk_8 rfl ?_
    exact W.vret hx hb hr (fun t ht _ => ⟨rfl, ht⟩) hS.2.2 sd_chk_9
set_option maxRecDepth 20000 in
theorem s_ch1 (l : Launch) (d : Nat) (ad : Nat → Nat) (A : Nat → Prop) (v N : Nat) (j : Int32) (f : Nat → Int32) (hN : N < 2 ^ 31) (hj : vp_in j N) (hf : f j.toNatClampNeg &&& 255 = f j.toNatClampNeg) : Met l sy_ch1 sw_ch1 (zrm_room (d + 3)) (va_Pc [.ref v, .int j] (fun U => zX ad A U U.heap ∧ va_T .byte v N (fun k => .int (f k)) A U U.heap)) (sQc (some (.int (f j.toNatClampNeg)))) 0 0 A := by
  refine Met.ofW (cc := sc_ch1) (maxL := 2) (ret := some .char) (by decide) rfl ?_
  intro p e s m args below meth c s₁ B hml hv
  obtain ⟨rfl, hX, hT⟩ := hv
  have hx := B.exec
  have hb := B.bytes
  have hr := B.returns
  have hlocks := B.notSynchronized
  have hts : ∀ w ∈ ztb, w.before ([.ref v, .int j] : List Value).toArray s = true := fun w hw => atoms_spec (ws := sw_ch1) B.pre w (List.mem_cons_of_mem _ hw)
  have hown : s.vm.findClass "java/lang/StringLatin1" = some m.cls := findClass_of_methodNamed B.named
  have hl := lv_entry ([.ref v, .int j]) (n := 2) (Nat.le_of_ble_eq_true rfl)
  rw [lg_entry_eq]
  generalize (lg_sl ([.ref v, .int j] : List Value) ++ List.replicate (2 - (lg_sl ([.ref v, .int j] : List Value)).length) Slot.unset).toArray = ls at hl ⊢
  have hl : lv_has ls 2 [(0, .ref v), (1, .int j)] := hl
  have hS : va_S A s.heap s.heap [] := va_S.rf
  have hj0 : ¬ j < 0 := fun z => hj (Or.inl z)
  have hj1 : j < Int32.ofNat N := by
    obtain ⟨i, hi, rfl⟩ := vp_in_of hj hN
    exact nI_lt hi hN
  refine lv_iload_n hx hb sd_ch1_0 rfl (lv_at hl 1 rfl) ?_
  refine lv_aload_n hx hb sd_ch1_1 rfl (lv_at hl 0 rfl) ?_
  refine va_tlen hx hb hT hS rfl sd_ch1_2 ?_
  refine sCall (va_runS (As := [.int j, .int (Int32.ofNat N)]) (rest := []) ⟨hx, hb, hml, hown, hts⟩ (s_chk l d ad j (Int32.ofNat N) hj0 hj1 A) (va_cwS 2 hts (zgood_in (fun w hw => by
    unfold va_wsS at hw
    rcases List.mem_append.mp hw with hw | hw
    · simp only [List.mem_cons, List.not_mem_nil, or_false] at hw
      rcases hw with rfl | rfl | rfl
      · exact st_l9
      · exact st_sx_chk
      · exact st_ini0
    · exact si_chk w hw)) rfl rfl rfl (by decide +kernel) ⟨Nat.le_refl _, by show 8 + (2 + 11) + 35 * (d + 2) ≤ 35 * (d + 3); omega⟩) ⟨sPre.blind, fun U hU hW => ⟨rfl, by show zX ad A U U.heap; rw [hU]; exact hX.warm hW⟩⟩ rfl rfl hl.1 rfl (lv_room (Nat.le_of_ble_eq_true rfl)) sd_ch1_3 ⟨Nat.le_refl _, Nat.le_refl _⟩) hS (fun _ h => h) (fun locs1 hS => ?_)
  refine lv_aload_n hx hb sd_ch1_6 rfl (lv_at hl 0 rfl) ?_
  refine lv_iload_n hx hb sd_ch1_7 rfl (lv_at hl 1 rfl) ?_
  refine va_tb hx hb hT hS hj (v := .int (f j.toNatClampNeg)) rfl sd_ch1_8 ?_
  refine lv_sipush (v := 255) hx hb sd_ch1_9 (by decide) ?_
  refine lv_iand hx hb sd_ch1_12 ?_
  rw [hf]
  have e2 : ((f j.toNatClampNeg).toUInt32 % 65536).toInt32 = f j.toNatClampNeg := by
    have := sc_c2 (f j.toNatClampNeg)
    rw [hf] at this
    exact this
  refine lv_i2c (v := f j.toNatClampNeg) hx hb sd_ch1_13 e2 ?_
  have nX : narrow .char (.int (f j.toNatClampNeg)) = .int (f j.toNatClampNeg) := by
    have := sc_nar (f j.toNatClampNeg)
    rw [hf] at this
    exact this
  exact W.zret (v := f j.toNatClampNeg) hx hb hr nX (fun t ht _ => ⟨rfl, ht⟩) hS.2.2 sd_ch1_14
set_option maxRecDepth 20000 in
theorem s_cod (l : Launch) (d : Nat) (ad : Nat → Nat) (A : Nat → Prop) (i : Nat) (hi : i < 3) : Met l sy_cod sw_cod (zrm_room (d + 1)) (sPre ad A [.ref (ad (2000 + i))]) (sQc (some (.int 0))) 0 0 A := by
  refine Met.ofW (cc := sc_cod) (maxL := 1) (ret := some .byte) (by decide) rfl ?_
  intro p e s m args below meth c s₁ B hml hv
  obtain ⟨rfl, hX⟩ := hv
  have hx := B.exec
  have hb := B.bytes
  have hr := B.returns
  have hlocks := B.notSynchronized
  have hts : ∀ w ∈ ztb, w.before ([.ref (ad (2000 + i))] : List Value).toArray s = true := fun w hw => atoms_spec (ws := sw_cod) B.pre w (List.mem_cons_of_mem _ hw)
  have hown : s.vm.findClass "java/lang/String" = some m.cls := findClass_of_methodNamed B.named
  have hl := lv_entry ([.ref (ad (2000 + i))]) (n := 1) (Nat.le_of_ble_eq_true rfl)
  rw [lg_entry_eq]
  generalize (lg_sl ([.ref (ad (2000 + i))] : List Value) ++ List.replicate (1 - (lg_sl ([.ref (ad (2000 + i))] : List Value)).length) Slot.unset).toArray = ls at hl ⊢
  have hl : lv_has ls 1 [(0, .ref (ad (2000 + i)))] := hl
  have hS : va_S A s.heap s.heap [] := va_S.rf
  obtain ⟨⟨adV, hV⟩, hV2, hV3, hV4⟩ := id hX
  refine va_gets hx hb hV3 hS hown (hts _ st_cs) (fun _ h => h) sd_cod_0 ?_
  refine lv_if_eq (tgt := 13) hx hb sd_cod_3 (by decide) (fun z => absurd z (by decide)) (fun _ => ?_)
  refine lv_aload_n hx hb sd_cod_6 rfl (lv_at hl 0 rfl) ?_
  refine vk_getf hx hb (hV.1 i hi).2.1 hS hown (hts _ st_cdr) (fun _ h => h) sd_cod_7 ?_
  refine lv_goto (tgt := 14) hx hb sd_cod_10 (by decide) ?_
  exact W.zret (v := 0) hx hb hr (by decide) (fun t ht _ => ⟨rfl, ht⟩) hS.2.2 sd_cod_14
set_option maxRecDepth 20000 in
theorem s_lat (l : Launch) (d : Nat) (ad : Nat → Nat) (A : Nat → Prop) (i : Nat) (hi : i < 3) : Met l sy_lat sw_lat (zrm_room (d + 1)) (sPre ad A [.ref (ad (2000 + i))]) (sQc (some (.int 1))) 0 0 A := by
  refine Met.ofW (cc := sc_lat) (maxL := 1) (ret := some .boolean) (by decide) rfl ?_
  intro p e s m args below meth c s₁ B hml hv
  obtain ⟨rfl, hX⟩ := hv
  have hx := B.exec
  have hb := B.bytes
  have hr := B.returns
  have hlocks := B.notSynchronized
  have hts : ∀ w ∈ ztb, w.before ([.ref (ad (2000 + i))] : List Value).toArray s = true := fun w hw => atoms_spec (ws := sw_lat) B.pre w (List.mem_cons_of_mem _ hw)
  have hown : s.vm.findClass "java/lang/String" = some m.cls := findClass_of_methodNamed B.named
  have hl := lv_entry ([.ref (ad (2000 + i))]) (n := 1) (Nat.le_of_ble_eq_true rfl)
  rw [lg_entry_eq]
  generalize (lg_sl ([.ref (ad (2000 + i))] : List Value) ++ List.replicate (1 - (lg_sl ([.ref (ad (2000 + i))] : List Value)).length) Slot.unset).toArray = ls at hl ⊢
  have hl : lv_has ls 1 [(0, .ref (ad (2000 + i)))] := hl
  have hS : va_S A s.heap s.heap [] := va_S.rf
  obtain ⟨⟨adV, hV⟩, hV2, hV3, hV4⟩ := id hX
  refine va_gets hx hb hV3 hS hown (hts _ st_cs) (fun _ h => h) sd_lat_0 ?_
  refine lv_if_eq (tgt := 17) hx hb sd_lat_3 (by decide) (fun z => absurd z (by decide)) (fun _ => ?_)
  refine lv_aload_n hx hb sd_lat_6 rfl (lv_at hl 0 rfl) ?_
  refine vk_getf hx hb (hV.1 i hi).2.1 hS hown (hts _ st_cdr) (fun _ h => h) sd_lat_7 ?_
  refine lv_if_ne (tgt := 17) hx hb sd_lat_10 (by decide) (fun z => absurd rfl z) (fun _ => ?_)
  refine lv_iconst (v := 1) hx hb sd_lat_13 (by decide) ?_
  refine lv_goto (tgt := 18) hx hb sd_lat_14 (by decide) ?_
  exact W.zret (v := 1) hx hb hr (by decide) (fun t ht _ => ⟨rfl, ht⟩) hS.2.2 sd_lat_18
set_option maxRecDepth 20000 in
theorem s_len (l : Launch) (d : Nat) (ad : Nat → Nat) (A : Nat → Prop) (i : Nat) (hi : i < 3) : Met l sy_len sw_len (zrm_room (d + 5)) (sPre ad A [.ref (ad (2000 + i))]) (sQc (some (.int (Int32.ofNat (ylen i))))) 0 0 A := by
  refine Met.ofW (cc := sc_len) (maxL := 1) (ret := some .int) (by decide) rfl ?_
  intro p e s m args below meth c s₁ B hml hv
  obtain ⟨rfl, hX⟩ := hv
  have hx := B.exec
  have hb := B.bytes
  have hr := B.returns
  have hlocks := B.notSynchronized
  have hts : ∀ w ∈ ztb, w.before ([.ref (ad (2000 + i))] : List Value).toArray s = true := fun w hw => atoms_spec (ws := sw_len) B.pre w (List.mem_cons_of_mem _ hw)
  have hown : s.vm.findClass "java/lang/String" = some m.cls := findClass_of_methodNamed B.named
  have hl := lv_entry ([.ref (ad (2000 + i))]) (n := 1) (Nat.le_of_ble_eq_true rfl)
  rw [lg_entry_eq]
  generalize (lg_sl ([.ref (ad (2000 + i))] : List Value) ++ List.replicate (1 - (lg_sl ([.ref (ad (2000 + i))] : List Value)).length) Slot.unset).toArray = ls at hl ⊢
  have hl : lv_has ls 1 [(0, .ref (ad (2000 + i)))] := hl
  have hS : va_S A s.heap s.heap [] := va_S.rf
  obtain ⟨⟨adV, hV⟩, hV2, hV3, hV4⟩ := id hX
  refine lv_aload_n hx hb sd_len_0 rfl (lv_at hl 0 rfl) ?_
  refine vk_getf hx hb (hV.1 i hi).2.2.1 hS hown (hts _ st_val) (fun _ h => h) sd_len_1 ?_
  refine va_tlen hx hb (hV.1 i hi).2.2.2 hS rfl sd_len_4 ?_
  refine lv_aload_n hx hb sd_len_5 rfl (lv_at hl 0 rfl) ?_
  refine sCall (va_runV (As := []) (rest := [.int (Int32.ofNat ([6, 3, 5].getD i 0))]) ⟨hx, hb, hml, hown, hts⟩ (s_cod l d ad A i hi) (cwV 0 hts (zgood_in (fun w hw => by
    unfold wsV at hw
    rcases List.mem_append.mp hw with hw | hw
    · simp only [List.mem_cons, List.not_mem_nil, or_false] at hw
      rcases hw with rfl | rfl | rfl | rfl
      · exact st_l335
      · exact st_in_cod
      · exact st_se_cod
      · exact st_ini0
    · exact si_cod w hw)) rfl rfl rfl (by decide +kernel) ⟨by show d + 1 + 1 ≤ d + 5; omega, by show 8 + (1 + 11) + 35 * (d + 1) ≤ 35 * (d + 5); omega⟩) ⟨sPre.blind, vk_recv hV hi hS, fun U hU hW => ⟨rfl, by show zX ad A U U.heap; rw [hU]; exact hX.warm hW⟩⟩ rfl rfl hl.1 rfl (lv_room (Nat.le_of_ble_eq_true rfl)) sd_len_6 ⟨Nat.le_refl _, Nat.le_refl _⟩) hS (fun _ h => h) (fun locs1 hS => ?_)
  refine lv_ishr hx hb sd_len_9 ?_
  have e := yl_shr i hi
  rw [e]
  exact W.iret (v := Int32.ofNat (ylen i)) hx hb hr (fun t ht _ => ⟨rfl, ht⟩) hS.2.2 sd_len_10
set_option maxRecDepth 20000 in
theorem s_cha (l : Launch) (d : Nat) (ad : Nat → Nat) (A : Nat → Prop) (i : Nat) (hi : i < 3) (j : Int32) (hj : vp_in j (ylen i)) : Met l sy_cha sw_cha (zrm_room (d + 5)) (sPre ad A [.ref (ad (2000 + i)), .int j]) (sQc (some (.int ((zby.getD i []).getD j.toNatClampNeg 0)))) 0 0 A := by
  refine Met.ofW (cc := sc_cha) (maxL := 2) (ret := some .char) (by decide) rfl ?_
  intro p e s m args below meth c s₁ B hml hv
  obtain ⟨rfl, hX⟩ := hv
  have hx := B.exec
  have hb := B.bytes
  have hr := B.returns
  have hlocks := B.notSynchronized
  have hts : ∀ w ∈ ztb, w.before ([.ref (ad (2000 + i)), .int j] : List Value).toArray s = true := fun w hw => atoms_spec (ws := sw_cha) B.pre w (List.mem_cons_of_mem _ hw)
  have hown : s.vm.findClass "java/lang/String" = some m.cls := findClass_of_methodNamed B.named
  have hl := lv_entry ([.ref (ad (2000 + i)), .int j]) (n := 2) (Nat.le_of_ble_eq_true rfl)
  rw [lg_entry_eq]
  generalize (lg_sl ([.ref (ad (2000 + i)), .int j] : List Value) ++ List.replicate (2 - (lg_sl ([.ref (ad (2000 + i)), .int j] : List Value)).length) Slot.unset).toArray = ls at hl ⊢
  have hl : lv_has ls 2 [(0, .ref (ad (2000 + i))), (1, .int j)] := hl
  have hS : va_S A s.heap s.heap [] := va_S.rf
  obtain ⟨⟨adV, hV⟩, hV2, hV3, hV4⟩ := id hX
  have hb255 : ∀ k, (zby.getD i []).getD k 0 &&& 255 = (zby.getD i []).getD k 0 := by
    intro k
    have := zby255 i hi
    rw [List.getD_eq_getElem?_getD]
    cases hk : (zby.getD i [])[k]? with
    | none => rfl
    | some b => exact this b (List.mem_of_getElem? hk)
  have nX : narrow .char (.int ((zby.getD i []).getD j.toNatClampNeg 0)) = .int ((zby.getD i []).getD j.toNatClampNeg 0) := by
    have := sc_nar ((zby.getD i []).getD j.toNatClampNeg 0)
    rw [hb255] at this
    exact this
  have hN := yl31 i hi
  refine lv_aload_n hx hb sd_cha_0 rfl (lv_at hl 0 rfl) ?_
  refine sCall (va_runV (As := []) (rest := []) ⟨hx, hb, hml, hown, hts⟩ (s_lat l d ad A i hi) (cwV 0 hts (zgood_in (fun w hw => by
    unfold wsV at hw
    rcases List.mem_append.mp hw with hw | hw
    · simp only [List.mem_cons, List.not_mem_nil, or_false] at hw
      rcases hw with rfl | rfl | rfl | rfl
      · exact st_l492
      · exact st_in_lat
      · exact st_se_lat
      · exact st_ini0
    · exact si_lat w hw)) rfl rfl rfl (by decide +kernel) ⟨by show d + 1 + 1 ≤ d + 5; omega, by show 8 + (1 + 11) + 35 * (d + 1) ≤ 35 * (d + 5); omega⟩) ⟨sPre.blind, vk_recv hV hi hS, fun U hU hW => ⟨rfl, by show zX ad A U U.heap; rw [hU]; exact hX.warm hW⟩⟩ rfl rfl hl.1 rfl (lv_room (Nat.le_of_ble_eq_true rfl)) sd_cha_1 ⟨Nat.le_refl _, Nat.le_refl _⟩) hS (fun _ h => h) (fun locs1 hS => ?_)
  refine lv_if_eq (tgt := 16) hx hb sd_cha_4 (by decide) (fun z => absurd z (by decide)) (fun _ => ?_)
  refine lv_aload_n hx hb sd_cha_7 rfl (lv_at hl 0 rfl) ?_
  refine vk_getf hx hb (hV.1 i hi).2.2.1 hS hown (hts _ st_val) (fun _ h => h) sd_cha_8 ?_
  refine lv_iload_n hx hb sd_cha_11 rfl (lv_at hl 1 rfl) ?_
  refine sCall (va_runS (As := [.ref (adV i), .int j]) (rest := []) ⟨hx, hb, hml, hown, hts⟩ (s_ch1 l d ad A (adV i) ([6, 3, 5].getD i 0) j (fun k => (zby.getD i []).getD k 0) hN hj (hb255 _)) (va_cwS 2 hts (zgood_in (fun w hw => by
    unfold va_wsS at hw
    rcases List.mem_append.mp hw with hw | hw
    · simp only [List.mem_cons, List.not_mem_nil, or_false] at hw
      rcases hw with rfl | rfl | rfl
      · exact st_l495
      · exact st_sx_ch1
      · exact st_ini1
    · exact si_ch1 w hw)) rfl rfl rfl (by decide +kernel) ⟨by show d + 3 + 1 ≤ d + 5; omega, by show 8 + (2 + 11) + 35 * (d + 3) ≤ 35 * (d + 5); omega⟩) ⟨fun a U g mk q => ⟨q.1, zX.same (s := U) (U := U.calling g mk a) rfl q.2.1, va_T.moved (u := U) (U := U.calling g mk a) (Vm.Alike.refl U.vm) q.2.2⟩, fun U hU hW => ⟨rfl, by show zX ad A U U.heap; rw [hU]; exact hX.warm hW, by show va_T .byte _ _ _ A U U.heap; rw [hU]; exact va_T.moved hW.alike (hV.1 i hi).2.2.2⟩⟩ rfl rfl hl.1 rfl (lv_room (Nat.le_of_ble_eq_true rfl)) sd_cha_12 ⟨Nat.le_refl _, Nat.le_refl _⟩) hS (fun _ h => h) (fun locs1 hS => ?_)
  exact W.zret (v := (zby.getD i []).getD j.toNatClampNeg 0) hx hb hr nX (fun t ht _ => ⟨rfl, ht⟩) hS.2.2 sd_cha_15
theorem zPost_of {ad : Nat → Nat} {cy : Nat → ClassId} {D : va_G} {sz : Nat} {r : Option Value} {σ : zSt} {a : Array Value} {st t : State} {oc : Outcome} (hv : r.map (zcv ad) = r) (hP : va_P D vwCl (zwl ad cy σ) st.heap) (h : sQc r a st oc t) : zPost ad cy D sz r σ a st oc t := by
  obtain ⟨h1, h2⟩ := h
  refine ⟨⟨by rw [hv]; exact h1, by rw [h2]; exact hP⟩, by rw [h2]; exact Nat.le_refl _, fun q _ _ => by rw [h2]⟩

