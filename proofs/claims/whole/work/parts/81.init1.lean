abbrev ic_fill : ByteArray := prog_16_method_103_code
def iy_fill : MethodName := ⟨"java/util/Arrays", "fill", "([II)V"⟩
def iw_fill : List Cond := Cond.code iy_fill ic_fill 4 none :: ztb
theorem ii_fill : ∀ w ∈ iw_fill, w ∈ ztb := fun w hw => by
  rcases List.mem_cons.mp hw with rfl | hw
  · exact tm_136
  · exact hw
theorem id_fill_0 : decode ic_fill 0 = .ok (.iconst 0, 1) := by decide +kernel
theorem id_fill_1 : decode ic_fill 1 = .ok (.istore_n 2, 1) := by decide +kernel
theorem id_fill_2 : decode ic_fill 2 = .ok (.aload_n 0, 1) := by decide +kernel
theorem id_fill_3 : decode ic_fill 3 = .ok (.arraylength, 1) := by decide +kernel
theorem id_fill_4 : decode ic_fill 4 = .ok (.istore_n 3, 1) := by decide +kernel
theorem id_fill_5 : decode ic_fill 5 = .ok (.iload_n 2, 1) := by decide +kernel
theorem id_fill_6 : decode ic_fill 6 = .ok (.iload_n 3, 1) := by decide +kernel
theorem id_fill_7 : decode ic_fill 7 = .ok (.if_icmp .ge 13, 3) := by decide +kernel
theorem id_fill_10 : decode ic_fill 10 = .ok (.aload_n 0, 1) := by decide +kernel
theorem id_fill_11 : decode ic_fill 11 = .ok (.iload_n 2, 1) := by decide +kernel
theorem id_fill_12 : decode ic_fill 12 = .ok (.iload_n 1, 1) := by decide +kernel
theorem id_fill_13 : decode ic_fill 13 = .ok (.iastore, 1) := by decide +kernel
theorem id_fill_14 : decode ic_fill 14 = .ok (.iinc 2 1, 3) := by decide +kernel
theorem id_fill_17 : decode ic_fill 17 = .ok (.goto (-12), 3) := by decide +kernel
theorem id_fill_20 : decode ic_fill 20 = .ok (.return_, 1) := by decide +kernel
set_option maxRecDepth 20000 in
theorem i_fill (l : Launch) (cy : Nat → ClassId) (D : va_G) (a sz N : Nat) (v : Int32) (hN : N < 1000) : Met l iy_fill iw_fill ({ frames := 0, cells := 0, slots := 0, locals := 0 }) (va_Pc [.ref a, .int v] (fun U => U.heap.size = sz ∧ va_P D vwCl [(a, .inl (cy 100, N, .inl (fun _ => 0)))] U.heap ∧ va_K D vwCl (ztys cy) U ∧ va_D (fun _ => True) [(a, .inl (cy 100, N, .inl (fun _ => 0)))])) (va_Qv (fun f : Nat → Int32 => ∀ j, j < N → f j = v) (fun f t => va_P D vwCl [(a, .inl (cy 100, N, .inl f))] t.heap ∧ va_D (va_A [(a, .inl (cy 100, N, .inl (fun _ => 0)))] sz) [(a, .inl (cy 100, N, .inl f))]) (va_A [(a, .inl (cy 100, N, .inl (fun _ => 0)))] sz)) 0 0 (va_A [(a, .inl (cy 100, N, .inl (fun _ => 0)))] sz) := by
  refine Met.ofW (cc := ic_fill) (maxL := 4) (ret := none) (by decide) rfl ?_
  intro p e s m args below meth c s₁ B hml hv
  obtain ⟨rfl, hsz, hP, hK, hD0⟩ := hv
  have hx := B.exec
  have hb := B.bytes
  have hr := B.returns
  have hlocks := B.notSynchronized
  subst hsz
  have hD := hD0.self (sz := s.heap.size)
  generalize hAe : va_A [(a, .inl (cy 100, N, .inl (fun _ => 0)))] s.heap.size = A at hD ⊢
  have hS : va_S A s.heap s.heap [] := va_S.rf
  have hl := lv_entry ([.ref a, .int v]) (n := 4) (Nat.le_of_ble_eq_true rfl)
  rw [lg_entry_eq]
  generalize (lg_sl ([.ref a, .int v] : List Value) ++ List.replicate (4 - (lg_sl ([.ref a, .int v] : List Value)).length) Slot.unset).toArray = ls at hl ⊢
  have hl : lv_has ls 4 [(0, .ref a), (1, .int v)] := hl
  refine lv_iconst (v := 0) hx hb id_fill_0 (by decide) ?_
  refine lv_istore_n (lv' := [(2, .int (nI 0)), (0, .ref a), (1, .int v)]) hx hb id_fill_1 rfl hl (by decide) rfl (fun ls hl => ?_)
  refine lv_aload_n hx hb id_fill_2 rfl (lv_at hl 1 rfl) ?_
  refine va_alen hx hb hK hP 0 0 rfl rfl (v := nI N) rfl id_fill_3 ?_
  refine lv_istore_n (lv' := [(3, .int (nI N)), (2, .int (nI 0)), (0, .ref a), (1, .int v)]) hx hb id_fill_4 rfl hl (by decide) rfl (fun ls hl => ?_)
  suffices go : ∀ (r i : Nat) (f : Nat → Int32) (H : Heap) (locs : List Loc) (ls : Array Slot), i + r = N → (∀ j, j < i → f j = v) → va_P D vwCl [(a, .inl (cy 100, N, .inl f))] H → va_D A [(a, .inl (cy 100, N, .inl f))] → va_S A s.heap H locs → lv_has ls 4 [(3, .int (nI N)), (2, .int (nI i)), (0, .ref a), (1, .int v)] → W p l e (headSpec iw_fill { frames := 0, cells := 0, slots := 0, locals := 0 }).room s m ([.ref a, .int v] : List Value).toArray below meth c H locs 0 0 (MQ below (va_Qv (fun f : Nat → Int32 => ∀ j, j < N → f j = v) (fun f t => va_P D vwCl [(a, .inl (cy 100, N, .inl f))] t.heap ∧ va_D A [(a, .inl (cy 100, N, .inl f))]) A) ([.ref a, .int v] : List Value).toArray s 0 0 A) (F0 m 5 ls []) from go N 0 _ _ _ _ (by omega) (fun j hj => absurd hj (Nat.not_lt_zero _)) hP hD hS hl
  intro r
  induction r with
  | zero =>
    intro i f H locs ls hi hf hP hD hS hl
    refine lv_iload_n hx hb id_fill_5 rfl (lv_at hl 1 rfl) ?_
    refine lv_iload_n hx hb id_fill_6 rfl (lv_at hl 0 rfl) ?_
    refine lv_icmp_ge (tgt := 20) hx hb id_fill_7 (by decide) (fun _ => ?_) (fun z => absurd (nI_le (by omega) (by omega)) z)
    exact W.vret hx hb hr (fun t ht hW => ⟨⟨f, rfl, fun j hj => hf j (by omega), by rw [ht]; exact hP, hD⟩, hS.F ht⟩) hS.2.2 id_fill_20
  | succ r ih =>
    intro i f H locs ls hi hf hP hD hS hl
    refine lv_iload_n hx hb id_fill_5 rfl (lv_at hl 1 rfl) ?_
    refine lv_iload_n hx hb id_fill_6 rfl (lv_at hl 0 rfl) ?_
    refine lv_icmp_ge (tgt := 20) hx hb id_fill_7 (by decide) (fun z => absurd z (nI_ge (by omega) (by omega))) (fun _ => ?_)
    refine lv_aload_n hx hb id_fill_10 rfl (lv_at hl 2 rfl) ?_
    refine lv_iload_n hx hb id_fill_11 rfl (lv_at hl 1 rfl) ?_
    refine lv_iload_n hx hb id_fill_12 rfl (lv_at hl 3 rfl) ?_
    refine va_iast hx hb hK hP hD hS 0 0 rfl rfl (vp_in_nI (n := i) (by omega) (by omega)) id_fill_13 (fun H1 locs1 hP hD hS => ?_)
    rw [nI_clamp (by omega)] at hP hD
    refine lv_iinc (v := nI (i + 1)) (lv' := [(2, .int (nI (i + 1))), (3, .int (nI N)), (0, .ref a), (1, .int v)]) hx hb id_fill_14 hl (k := 1) rfl (nI_1 i) (by decide) rfl (fun ls hl => ?_)
    refine lv_goto (tgt := 5) hx hb id_fill_17 (by decide) ?_
    exact ih (i + 1) (upd f i v) H1 locs1 ls (by omega) (fun j hj => by
      by_cases e : j = i
      · rw [e, pk_us]
      · rw [pk_un e]; exact hf j (by omega)) hP hD hS (lv_sub hl [1, 0, 2, 3] rfl)
abbrev ic_1 : ByteArray := prog_3_method_1_code
def iy_1 : MethodName := ⟨"SleeveSlips$Chooser", "<init>", "()V"⟩
def iw_1 : List Cond := Cond.code iy_1 ic_1 1 none :: ztb
theorem ii_1 : ∀ w ∈ iw_1, w ∈ ztb := fun w hw => by
  rcases List.mem_cons.mp hw with rfl | hw
  · exact tm_217
  · exact hw
theorem id_1_0 : decode ic_1 0 = .ok (.aload_n 0, 1) := by decide +kernel
theorem id_1_1 : decode ic_1 1 = .ok (.invokespecial 3, 3) := by decide +kernel
theorem id_1_4 : decode ic_1 4 = .ok (.aload_n 0, 1) := by decide +kernel
theorem id_1_5 : decode ic_1 5 = .ok (.bipush 8, 2) := by decide +kernel
theorem id_1_7 : decode ic_1 7 = .ok (.newarray .int, 2) := by decide +kernel
theorem id_1_9 : decode ic_1 9 = .ok (.putfield 9, 3) := by decide +kernel
theorem id_1_12 : decode ic_1 12 = .ok (.return_, 1) := by decide +kernel
def iW_1 (cy : Nat → ClassId) (u : (Nat → Nat) × (Nat → Int32)) : va_W := [(u.1 0, .inr (1, [.int 0, .int 0, .ref (u.1 1)])), (u.1 1, .inl (cy 100, 8, .inl (fun _ => 0)))]
abbrev iD_1 (h0 : Nat) : va_W := [(h0, .inr (1, [.int 0, .int 0, .null]))]
set_option maxHeartbeats 4000000 in
set_option maxRecDepth 100000 in
theorem i_1 (l : Launch) (cy : Nat → ClassId) (D : va_G) (h0 sz : Nat) : Met l iy_1 iw_1 ({ frames := 1, cells := 1, slots := 8, locals := 12 }) (va_Pc [.ref h0] (fun U => U.heap.size = sz ∧ va_P D vwCl (iD_1 h0) U.heap ∧ va_K D vwCl (ztys cy) U ∧ va_D (fun _ => True) (iD_1 h0))) (va_Qv (fun u : (Nat → Nat) × (Nat → Int32) => u.1 0 = h0 ∧ ∀ j, j < 8 → u.2 j = -1) (fun u t => va_P D vwCl (iW_1 cy u) t.heap ∧ va_D (va_A (iD_1 h0) sz) (iW_1 cy u)) (va_A (iD_1 h0) sz)) 1 8 (va_A (iD_1 h0) sz) := by
  refine Met.ofW (cc := ic_1) (maxL := 1) (ret := none) (by decide) rfl ?_
  intro p e s m args below meth c s₁ B hml hv
  obtain ⟨rfl, hsz, hP, hK, hD0⟩ := hv
  have hx := B.exec
  have hb := B.bytes
  have hr := B.returns
  have hts : ∀ w ∈ ztb, w.before ([.ref h0] : List Value).toArray s = true := fun w hw => atoms_spec (ws := iw_1) B.pre w (List.mem_cons_of_mem _ hw)
  have hown : s.vm.findClass "SleeveSlips$Chooser" = some m.cls := findClass_of_methodNamed B.named
  have hlocks := B.notSynchronized
  have hin : meth.name = "<init>" := (name_of_methodNamed B.named B.method).1
  subst hsz
  have hD := hD0.self (sz := s.heap.size)
  generalize hAe : va_A (iD_1 h0) s.heap.size = A at hD ⊢
  have hA : ∀ q : Nat, s.heap.size ≤ q → A q := fun q h => by rw [← hAe]; exact Or.inr h
  have hS : va_S A s.heap s.heap [] := va_S.rf
  have hl := lv_entry ([.ref h0]) (n := 1) (Nat.le_of_ble_eq_true rfl)
  rw [lg_entry_eq]
  generalize (lg_sl ([.ref h0] : List Value) ++ List.replicate (1 - (lg_sl ([.ref h0] : List Value)).length) Slot.unset).toArray = ls at hl ⊢
  have hl : lv_has ls 1 [(0, .ref h0)] := hl
  refine lv_aload_n hx hb id_1_0 rfl (lv_at hl 0 rfl) ?_
  refine W.objInit hx hb hown (hts _ tm_218) (hts _ tm_23) (hts _ tm_24) rfl (by rw [hml]; exact hl.1) rfl id_1_1 (Nat.le_of_ble_eq_true rfl) (Nat.le_of_ble_eq_true rfl) ?_
  refine W.eq (g2 := F0 m 4 ls []) rfl ?_
  refine lv_aload_n hx hb id_1_4 rfl (lv_at hl 0 rfl) ?_
  refine lv_bipush (v := 8) hx hb id_1_5 (by decide) ?_
  refine zn_int hx hb (hts _ tm_55) hK hP hD hS hA (N := 8) (by decide) (by decide) (by decide) (Nat.le_of_ble_eq_true rfl) (Nat.le_of_ble_eq_true rfl) id_1_7 (fun q1 H hP hD hS => ?_)
  refine W.widen (k := 1) (n := 8) (by decide) (by decide) ?_
  have hP : va_P D vwCl [(h0, .inr (1, [.int 0, .int 0, .null])), (q1, .inl (cy 100, 8, .inl (fun _ => 0)))] H := hP
  have hD : va_D A [(h0, .inr (1, [.int 0, .int 0, .null])), (q1, .inl (cy 100, 8, .inl (fun _ => 0)))] := hD
  refine va_putF hx hb hts (ztIn 1 (by decide)) (tY 1) (tTy 1 (by decide)) (tNm 1 (by decide)) hown hK hP hD hS 0 rfl (tCl 1 (by decide)) 2 (by decide) (hts _ tm_223) (fun _ z => z) rfl hin rfl (tTy 1 (by decide) 2 (by decide)) rfl rfl (Nat.le_of_ble_eq_true rfl) id_1_9 (fun H locs hP hD hS => ?_)
  have hP : va_P D vwCl [(h0, .inr (1, [.int 0, .int 0, .ref q1])), (q1, .inl (cy 100, 8, .inl (fun _ => 0)))] H := hP
  have hD : va_D A [(h0, .inr (1, [.int 0, .int 0, .ref q1])), (q1, .inl (cy 100, 8, .inl (fun _ => 0)))] := hD
  exact W.vret hx hb hr (fun t ht hW => ⟨⟨(fun j => [h0, q1].getD j 0, fun _ => -1), rfl, ⟨rfl, fun _ _ => rfl⟩, by rw [ht]; exact hP, hD⟩, hS.F ht⟩) hS.2.2 id_1_12
abbrev ic_3 : ByteArray := prog_5_method_1_code
def iy_3 : MethodName := ⟨"SleeveSlips$Rings", "<init>", "()V"⟩
def iw_3 : List Cond := Cond.code iy_3 ic_3 1 none :: ztb
theorem ii_3 : ∀ w ∈ iw_3, w ∈ ztb := fun w hw => by
  rcases List.mem_cons.mp hw with rfl | hw
  · exact tm_235
  · exact hw
theorem id_3_0 : decode ic_3 0 = .ok (.aload_n 0, 1) := by decide +kernel
theorem id_3_1 : decode ic_3 1 = .ok (.invokespecial 3, 3) := by decide +kernel
theorem id_3_4 : decode ic_3 4 = .ok (.aload_n 0, 1) := by decide +kernel
theorem id_3_5 : decode ic_3 5 = .ok (.bipush 8, 2) := by decide +kernel
theorem id_3_7 : decode ic_3 7 = .ok (.newarray .int, 2) := by decide +kernel
theorem id_3_9 : decode ic_3 9 = .ok (.putfield 9, 3) := by decide +kernel
theorem id_3_12 : decode ic_3 12 = .ok (.return_, 1) := by decide +kernel
def iW_3 (cy : Nat → ClassId) (u : (Nat → Nat) × (Nat → Int32)) : va_W := [(u.1 0, .inr (3, [.ref (u.1 1)])), (u.1 1, .inl (cy 100, 8, .inl (fun _ => 0)))]
abbrev iD_3 (h0 : Nat) : va_W := [(h0, .inr (3, [.null]))]
set_option maxHeartbeats 4000000 in
set_option maxRecDepth 100000 in
theorem i_3 (l : Launch) (cy : Nat → ClassId) (D : va_G) (h0 sz : Nat) : Met l iy_3 iw_3 ({ frames := 1, cells := 1, slots := 8, locals := 12 }) (va_Pc [.ref h0] (fun U => U.heap.size = sz ∧ va_P D vwCl (iD_3 h0) U.heap ∧ va_K D vwCl (ztys cy) U ∧ va_D (fun _ => True) (iD_3 h0))) (va_Qv (fun u : (Nat → Nat) × (Nat → Int32) => u.1 0 = h0 ∧ ∀ j, j < 8 → u.2 j = -1) (fun u t => va_P D vwCl (iW_3 cy u) t.heap ∧ va_D (va_A (iD_3 h0) sz) (iW_3 cy u)) (va_A (iD_3 h0) sz)) 1 8 (va_A (iD_3 h0) sz) := by
  refine Met.ofW (cc := ic_3) (maxL := 1) (ret := none) (by decide) rfl ?_
  intro p e s m args below meth c s₁ B hml hv
  obtain ⟨rfl, hsz, hP, hK, hD0⟩ := hv
  have hx := B.exec
  have hb := B.bytes
  have hr := B.returns
  have hts : ∀ w ∈ ztb, w.before ([.ref h0] : List Value).toArray s = true := fun w hw => atoms_spec (ws := iw_3) B.pre w (List.mem_cons_of_mem _ hw)
  have hown : s.vm.findClass "SleeveSlips$Rings" = some m.cls := findClass_of_methodNamed B.named
  have hlocks := B.notSynchronized
  have hin : meth.name = "<init>" := (name_of_methodNamed B.named B.method).1
  subst hsz
  have hD := hD0.self (sz := s.heap.size)
  generalize hAe : va_A (iD_3 h0) s.heap.size = A at hD ⊢
  have hA : ∀ q : Nat, s.heap.size ≤ q → A q := fun q h => by rw [← hAe]; exact Or.inr h
  have hS : va_S A s.heap s.heap [] := va_S.rf
  have hl := lv_entry ([.ref h0]) (n := 1) (Nat.le_of_ble_eq_true rfl)
  rw [lg_entry_eq]
  generalize (lg_sl ([.ref h0] : List Value) ++ List.replicate (1 - (lg_sl ([.ref h0] : List Value)).length) Slot.unset).toArray = ls at hl ⊢
  have hl : lv_has ls 1 [(0, .ref h0)] := hl
  refine lv_aload_n hx hb id_3_0 rfl (lv_at hl 0 rfl) ?_
  refine W.objInit hx hb hown (hts _ tm_236) (hts _ tm_23) (hts _ tm_24) rfl (by rw [hml]; exact hl.1) rfl id_3_1 (Nat.le_of_ble_eq_true rfl) (Nat.le_of_ble_eq_true rfl) ?_
  refine W.eq (g2 := F0 m 4 ls []) rfl ?_
  refine lv_aload_n hx hb id_3_4 rfl (lv_at hl 0 rfl) ?_
  refine lv_bipush (v := 8) hx hb id_3_5 (by decide) ?_
  refine zn_int hx hb (hts _ tm_55) hK hP hD hS hA (N := 8) (by decide) (by decide) (by decide) (Nat.le_of_ble_eq_true rfl) (Nat.le_of_ble_eq_true rfl) id_3_7 (fun q1 H hP hD hS => ?_)
  refine W.widen (k := 1) (n := 8) (by decide) (by decide) ?_
  have hP : va_P D vwCl [(h0, .inr (3, [.null])), (q1, .inl (cy 100, 8, .inl (fun _ => 0)))] H := hP
  have hD : va_D A [(h0, .inr (3, [.null])), (q1, .inl (cy 100, 8, .inl (fun _ => 0)))] := hD
  refine va_putF hx hb hts (ztIn 3 (by decide)) (tY 3) (tTy 3 (by decide)) (tNm 3 (by decide)) hown hK hP hD hS 0 rfl (tCl 3 (by decide)) 0 (by decide) (hts _ tm_237) (fun _ z => z) rfl hin rfl (tTy 3 (by decide) 0 (by decide)) rfl rfl (Nat.le_of_ble_eq_true rfl) id_3_9 (fun H locs hP hD hS => ?_)
  have hP : va_P D vwCl [(h0, .inr (3, [.ref q1])), (q1, .inl (cy 100, 8, .inl (fun _ => 0)))] H := hP
  have hD : va_D A [(h0, .inr (3, [.ref q1])), (q1, .inl (cy 100, 8, .inl (fun _ => 0)))] := hD
  exact W.vret hx hb hr (fun t ht hW => ⟨⟨(fun j => [h0, q1].getD j 0, fun _ => -1), rfl, ⟨rfl, fun _ _ => rfl⟩, by rw [ht]; exact hP, hD⟩, hS.F ht⟩) hS.2.2 id_3_12
abbrev ic_4 : ByteArray := prog_6_method_1_code
def iy_4 : MethodName := ⟨"SleeveSlips$Text", "<init>", "()V"⟩
def iw_4 : List Cond := Cond.code iy_4 ic_4 1 none :: ztb
theorem ii_4 : ∀ w ∈ iw_4, w ∈ ztb := fun w hw => by
  rcases List.mem_cons.mp hw with rfl | hw
  · exact tm_29
  · exact hw
theorem id_4_0 : decode ic_4 0 = .ok (.aload_n 0, 1) := by decide +kernel
theorem id_4_1 : decode ic_4 1 = .ok (.invokespecial 3, 3) := by decide +kernel
theorem id_4_4 : decode ic_4 4 = .ok (.aload_n 0, 1) := by decide +kernel
theorem id_4_5 : decode ic_4 5 = .ok (.sipush 300, 3) := by decide +kernel
theorem id_4_8 : decode ic_4 8 = .ok (.newarray .byte, 2) := by decide +kernel
theorem id_4_10 : decode ic_4 10 = .ok (.putfield 9, 3) := by decide +kernel
theorem id_4_13 : decode ic_4 13 = .ok (.aload_n 0, 1) := by decide +kernel
theorem id_4_14 : decode ic_4 14 = .ok (.iconst 5, 1) := by decide +kernel
theorem id_4_15 : decode ic_4 15 = .ok (.newarray .int, 2) := by decide +kernel
theorem id_4_17 : decode ic_4 17 = .ok (.putfield 15, 3) := by decide +kernel
theorem id_4_20 : decode ic_4 20 = .ok (.return_, 1) := by decide +kernel
def iW_4 (cy : Nat → ClassId) (u : (Nat → Nat) × (Nat → Int32)) : va_W := [(u.1 0, .inr (4, [.ref (u.1 1), .int 0, .int 0, .int 0, .int 0, .int 0, .ref (u.1 2)])), (u.1 1, .inl (cy 101, 300, .inl (fun _ => 0))), (u.1 2, .inl (cy 100, 5, .inl (fun _ => 0)))]
abbrev iD_4 (h0 : Nat) : va_W := [(h0, .inr (4, [.null, .int 0, .int 0, .int 0, .int 0, .int 0, .null]))]
set_option maxHeartbeats 4000000 in
set_option maxRecDepth 100000 in
theorem i_4 (l : Launch) (cy : Nat → ClassId) (D : va_G) (h0 sz : Nat) : Met l iy_4 iw_4 ({ frames := 1, cells := 2, slots := 305, locals := 12 }) (va_Pc [.ref h0] (fun U => U.heap.size = sz ∧ va_P D vwCl (iD_4 h0) U.heap ∧ va_K D vwCl (ztys cy) U ∧ va_D (fun _ => True) (iD_4 h0))) (va_Qv (fun u : (Nat → Nat) × (Nat → Int32) => u.1 0 = h0 ∧ ∀ j, j < 8 → u.2 j = -1) (fun u t => va_P D vwCl (iW_4 cy u) t.heap ∧ va_D (va_A (iD_4 h0) sz) (iW_4 cy u)) (va_A (iD_4 h0) sz)) 2 305 (va_A (iD_4 h0) sz) := by
  refine Met.ofW (cc := ic_4) (maxL := 1) (ret := none) (by decide) rfl ?_
  intro p e s m args below meth c s₁ B hml hv
  obtain ⟨rfl, hsz, hP, hK, hD0⟩ := hv
  have hx := B.exec
  have hb := B.bytes
  have hr := B.returns
  have hts : ∀ w ∈ ztb, w.before ([.ref h0] : List Value).toArray s = true := fun w hw => atoms_spec (ws := iw_4) B.pre w (List.mem_cons_of_mem _ hw)
  have hown : s.vm.findClass "SleeveSlips$Text" = some m.cls := findClass_of_methodNamed B.named
  have hlocks := B.notSynchronized
  have hin : meth.name = "<init>" := (name_of_methodNamed B.named B.method).1
  subst hsz
  have hD := hD0.self (sz := s.heap.size)
  generalize hAe : va_A (iD_4 h0) s.heap.size = A at hD ⊢
  have hA : ∀ q : Nat, s.heap.size ≤ q → A q := fun q h => by rw [← hAe]; exact Or.inr h
  have hS : va_S A s.heap s.heap [] := va_S.rf
  have hl := lv_entry ([.ref h0]) (n := 1) (Nat.le_of_ble_eq_true rfl)
  rw [lg_entry_eq]
  generalize (lg_sl ([.ref h0] : List Value) ++ List.replicate (1 - (lg_sl ([.ref h0] : List Value)).length) Slot.unset).toArray = ls at hl ⊢
  have hl : lv_has ls 1 [(0, .ref h0)] := hl
  refine lv_aload_n hx hb id_4_0 rfl (lv_at hl 0 rfl) ?_
  refine W.objInit hx hb hown (hts _ tm_30) (hts _ tm_23) (hts _ tm_24) rfl (by rw [hml]; exact hl.1) rfl id_4_1 (Nat.le_of_ble_eq_true rfl) (Nat.le_of_ble_eq_true rfl) ?_
  refine W.eq (g2 := F0 m 4 ls []) rfl ?_
  refine lv_aload_n hx hb id_4_4 rfl (lv_at hl 0 rfl) ?_
  refine lv_sipush (v := 300) hx hb id_4_5 (by decide) ?_
  refine zn_byte hx hb (hts _ tm_54) hK hP hD hS hA (N := 300) (by decide) (by decide) (by decide) (Nat.le_of_ble_eq_true rfl) (Nat.le_of_ble_eq_true rfl) id_4_8 (fun q1 H hP hD hS => ?_)
  refine W.widen (k := 1) (n := 300) (by decide) (by decide) ?_
  have hP : va_P D vwCl [(h0, .inr (4, [.null, .int 0, .int 0, .int 0, .int 0, .int 0, .null])), (q1, .inl (cy 101, 300, .inl (fun _ => 0)))] H := hP
  have hD : va_D A [(h0, .inr (4, [.null, .int 0, .int 0, .int 0, .int 0, .int 0, .null])), (q1, .inl (cy 101, 300, .inl (fun _ => 0)))] := hD
  refine va_putF hx hb hts (ztIn 4 (by decide)) (tY 4) (tTy 4 (by decide)) (tNm 4 (by decide)) hown hK hP hD hS 0 rfl (tCl 4 (by decide)) 0 (by decide) (hts _ tm_31) (fun _ z => z) rfl hin rfl (tTy 4 (by decide) 0 (by decide)) rfl rfl (Nat.le_of_ble_eq_true rfl) id_4_10 (fun H locs hP hD hS => ?_)
  have hP : va_P D vwCl [(h0, .inr (4, [.ref q1, .int 0, .int 0, .int 0, .int 0, .int 0, .null])), (q1, .inl (cy 101, 300, .inl (fun _ => 0)))] H := hP
  have hD : va_D A [(h0, .inr (4, [.ref q1, .int 0, .int 0, .int 0, .int 0, .int 0, .null])), (q1, .inl (cy 101, 300, .inl (fun _ => 0)))] := hD
  refine lv_aload_n hx hb id_4_13 rfl (lv_at hl 0 rfl) ?_
  refine lv_iconst (v := 5) hx hb id_4_14 (by decide) ?_
  refine zn_int hx hb (hts _ tm_55) hK hP hD hS hA (N := 5) (by decide) (by decide) (by decide) (Nat.le_of_ble_eq_true rfl) (Nat.le_of_ble_eq_true rfl) id_4_15 (fun q2 H hP hD hS => ?_)
  refine W.widen (k := 2) (n := 305) (by decide) (by decide) ?_
  have hP : va_P D vwCl [(h0, .inr (4, [.ref q1, .int 0, .int 0, .int 0, .int 0, .int 0, .null])), (q1, .inl (cy 101, 300, .inl (fun _ => 0))), (q2, .inl (cy 100, 5, .inl (fun _ => 0)))] H := hP
  have hD : va_D A [(h0, .inr (4, [.ref q1, .int 0, .int 0, .int 0, .int 0, .int 0, .null])), (q1, .inl (cy 101, 300, .inl (fun _ => 0))), (q2, .inl (cy 100, 5, .inl (fun _ => 0)))] := hD
  refine va_putF hx hb hts (ztIn 4 (by decide)) (tY 4) (tTy 4 (by decide)) (tNm 4 (by decide)) hown hK hP hD hS 0 rfl (tCl 4 (by decide)) 6 (by decide) (hts _ tm_38) (fun _ z => z) rfl hin rfl (tTy 4 (by decide) 6 (by decide)) rfl rfl (Nat.le_of_ble_eq_true rfl) id_4_17 (fun H locs hP hD hS => ?_)
  have hP : va_P D vwCl [(h0, .inr (4, [.ref q1, .int 0, .int 0, .int 0, .int 0, .int 0, .ref q2])), (q1, .inl (cy 101, 300, .inl (fun _ => 0))), (q2, .inl (cy 100, 5, .inl (fun _ => 0)))] H := hP
  have hD : va_D A [(h0, .inr (4, [.ref q1, .int 0, .int 0, .int 0, .int 0, .int 0, .ref q2])), (q1, .inl (cy 101, 300, .inl (fun _ => 0))), (q2, .inl (cy 100, 5, .inl (fun _ => 0)))] := hD
  exact W.vret hx hb hr (fun t ht hW => ⟨⟨(fun j => [h0, q1, q2].getD j 0, fun _ => -1), rfl, ⟨rfl, fun _ _ => rfl⟩, by rw [ht]; exact hP, hD⟩, hS.F ht⟩) hS.2.2 id_4_20
abbrev ic_5 : ByteArray := prog_7_method_1_code
def iy_5 : MethodName := ⟨"SleeveSlips$Town", "<init>", "()V"⟩
def iw_5 : List Cond := Cond.code iy_5 ic_5 1 none :: ztb
theorem ii_5 : ∀ w ∈ iw_5, w ∈ ztb := fun w hw => by
  rcases List.mem_cons.mp hw with rfl | hw
  · exact tm_60
  · exact hw
theorem id_5_0 : decode ic_5 0 = .ok (.aload_n 0, 1) := by decide +kernel
theorem id_5_1 : decode ic_5 1 = .ok (.invokespecial 3, 3) := by decide +kernel
theorem id_5_4 : decode ic_5 4 = .ok (.aload_n 0, 1) := by decide +kernel
theorem id_5_5 : decode ic_5 5 = .ok (.iconst 4, 1) := by decide +kernel
theorem id_5_6 : decode ic_5 6 = .ok (.newarray .int, 2) := by decide +kernel
theorem id_5_8 : decode ic_5 8 = .ok (.putfield 9, 3) := by decide +kernel
theorem id_5_11 : decode ic_5 11 = .ok (.aload_n 0, 1) := by decide +kernel
theorem id_5_12 : decode ic_5 12 = .ok (.iconst 4, 1) := by decide +kernel
theorem id_5_13 : decode ic_5 13 = .ok (.newarray .int, 2) := by decide +kernel
theorem id_5_15 : decode ic_5 15 = .ok (.putfield 15, 3) := by decide +kernel
theorem id_5_18 : decode ic_5 18 = .ok (.aload_n 0, 1) := by decide +kernel
theorem id_5_19 : decode ic_5 19 = .ok (.iconst 4, 1) := by decide +kernel
theorem id_5_20 : decode ic_5 20 = .ok (.newarray .int, 2) := by decide +kernel
theorem id_5_22 : decode ic_5 22 = .ok (.putfield 18, 3) := by decide +kernel
theorem id_5_25 : decode ic_5 25 = .ok (.aload_n 0, 1) := by decide +kernel
theorem id_5_26 : decode ic_5 26 = .ok (.bipush 8, 2) := by decide +kernel
theorem id_5_28 : decode ic_5 28 = .ok (.newarray .int, 2) := by decide +kernel
theorem id_5_30 : decode ic_5 30 = .ok (.putfield 21, 3) := by decide +kernel
theorem id_5_33 : decode ic_5 33 = .ok (.aload_n 0, 1) := by decide +kernel
theorem id_5_34 : decode ic_5 34 = .ok (.bipush 8, 2) := by decide +kernel
theorem id_5_36 : decode ic_5 36 = .ok (.newarray .int, 2) := by decide +kernel
theorem id_5_38 : decode ic_5 38 = .ok (.putfield 24, 3) := by decide +kernel
theorem id_5_41 : decode ic_5 41 = .ok (.aload_n 0, 1) := by decide +kernel
theorem id_5_42 : decode ic_5 42 = .ok (.bipush 8, 2) := by decide +kernel
theorem id_5_44 : decode ic_5 44 = .ok (.newarray .int, 2) := by decide +kernel
theorem id_5_46 : decode ic_5 46 = .ok (.putfield 27, 3) := by decide +kernel
theorem id_5_49 : decode ic_5 49 = .ok (.aload_n 0, 1) := by decide +kernel
theorem id_5_50 : decode ic_5 50 = .ok (.bipush 8, 2) := by decide +kernel
theorem id_5_52 : decode ic_5 52 = .ok (.newarray .int, 2) := by decide +kernel
theorem id_5_54 : decode ic_5 54 = .ok (.putfield 30, 3) := by decide +kernel
theorem id_5_57 : decode ic_5 57 = .ok (.aload_n 0, 1) := by decide +kernel
theorem id_5_58 : decode ic_5 58 = .ok (.bipush 8, 2) := by decide +kernel
theorem id_5_60 : decode ic_5 60 = .ok (.newarray .int, 2) := by decide +kernel
theorem id_5_62 : decode ic_5 62 = .ok (.putfield 33, 3) := by decide +kernel
theorem id_5_65 : decode ic_5 65 = .ok (.aload_n 0, 1) := by decide +kernel
theorem id_5_66 : decode ic_5 66 = .ok (.bipush 8, 2) := by decide +kernel
theorem id_5_68 : decode ic_5 68 = .ok (.newarray .int, 2) := by decide +kernel
theorem id_5_70 : decode ic_5 70 = .ok (.putfield 36, 3) := by decide +kernel
theorem id_5_73 : decode ic_5 73 = .ok (.return_, 1) := by decide +kernel
def iW_5 (cy : Nat → ClassId) (u : (Nat → Nat) × (Nat → Int32)) : va_W := [(u.1 0, .inr (5, [.int 0, .ref (u.1 1), .ref (u.1 2), .ref (u.1 3), .int 0, .ref (u.1 4), .ref (u.1 5), .ref (u.1 6), .ref (u.1 7), .ref (u.1 8), .int 0, .ref (u.1 9)])), (u.1 1, .inl (cy 100, 4, .inl (fun _ => 0))), (u.1 2, .inl (cy 100, 4, .inl (fun _ => 0))), (u.1 3, .inl (cy 100, 4, .inl (fun _ => 0))), (u.1 4, .inl (cy 100, 8, .inl (fun _ => 0))), (u.1 5, .inl (cy 100, 8, .inl (fun _ => 0))), (u.1 6, .inl (cy 100, 8, .inl (fun _ => 0))), (u.1 7, .inl (cy 100, 8, .inl (fun _ => 0))), (u.1 8, .inl (cy 100, 8, .inl (fun _ => 0))), (u.1 9, .inl (cy 100, 8, .inl (fun _ => 0)))]
abbrev iD_5 (h0 : Nat) : va_W := [(h0, .inr (5, [.int 0, .null, .null, .null, .int 0, .null, .null, .null, .null, .null, .int 0, .null]))]
set_option maxHeartbeats 4000000 in
set_option maxRecDepth 100000 in
theorem i_5 (l : Launch) (cy : Nat → ClassId) (D : va_G) (h0 sz : Nat) : Met l iy_5 iw_5 ({ frames := 1, cells := 9, slots := 60, locals := 12 }) (va_Pc [.ref h0] (fun U => U.heap.size = sz ∧ va_P D vwCl (iD_5 h0) U.heap ∧ va_K D vwCl (ztys cy) U ∧ va_D (fun _ => True) (iD_5 h0))) (va_Qv (fun u : (Nat → Nat) × (Nat → Int32) => u.1 0 = h0 ∧ ∀ j, j < 8 → u.2 j = -1) (fun u t => va_P D vwCl (iW_5 cy u) t.heap ∧ va_D (va_A (iD_5 h0) sz) (iW_5 cy u)) (va_A (iD_5 h0) sz)) 9 60 (va_A (iD_5 h0) sz) := by
  refine Met.ofW (cc := ic_5) (maxL := 1) (ret := none) (by decide) rfl ?_
  intro p e s m args below meth c s₁ B hml hv
  obtain ⟨rfl, hsz, hP, hK, hD0⟩ := hv
  have hx := B.exec
  have hb := B.bytes
  have hr := B.returns
  have hts : ∀ w ∈ ztb, w.before ([.ref h0] : List Value).toArray s = true := fun w hw => atoms_spec (ws := iw_5) B.pre w (List.mem_cons_of_mem _ hw)
  have hown : s.vm.findClass "SleeveSlips$Town" = some m.cls := findClass_of_methodNamed B.named
  have hlocks := B.notSynchronized
  have hin : meth.name = "<init>" := (name_of_methodNamed B.named B.method).1
  subst hsz
  have hD := hD0.self (sz := s.heap.size)
  generalize hAe : va_A (iD_5 h0) s.heap.size = A at hD ⊢
  have hA : ∀ q : Nat, s.heap.size ≤ q → A q := fun q h => by rw [← hAe]; exact Or.inr h
  have hS : va_S A s.heap s.heap [] := va_S.rf
  have hl := lv_entry ([.ref h0]) (n := 1) (Nat.le_of_ble_eq_true rfl)
  rw [lg_entry_eq]
  generalize (lg_sl ([.ref h0] : List Value) ++ List.replicate (1 - (lg_sl ([.ref h0] : List Value)).length) Slot.unset).toArray = ls at hl ⊢
  have hl : lv_has ls 1 [(0, .ref h0)] := hl
  refine lv_aload_n hx hb id_5_0 rfl (lv_at hl 0 rfl) ?_
  refine W.objInit hx hb hown (hts _ tm_61) (hts _ tm_23) (hts _ tm_24) rfl (by rw [hml]; exact hl.1) rfl id_5_1 (Nat.le_of_ble_eq_true rfl) (Nat.le_of_ble_eq_true rfl) ?_
  refine W.eq (g2 := F0 m 4 ls []) rfl ?_
  refine lv_aload_n hx hb id_5_4 rfl (lv_at hl 0 rfl) ?_
  refine lv_iconst (v := 4) hx hb id_5_5 (by decide) ?_
  refine zn_int hx hb (hts _ tm_55) hK hP hD hS hA (N := 4) (by decide) (by decide) (by decide) (Nat.le_of_ble_eq_true rfl) (Nat.le_of_ble_eq_true rfl) id_5_6 (fun q1 H hP hD hS => ?_)
  refine W.widen (k := 1) (n := 4) (by decide) (by decide) ?_
  have hP : va_P D vwCl [(h0, .inr (5, [.int 0, .null, .null, .null, .int 0, .null, .null, .null, .null, .null, .int 0, .null])), (q1, .inl (cy 100, 4, .inl (fun _ => 0)))] H := hP
  have hD : va_D A [(h0, .inr (5, [.int 0, .null, .null, .null, .int 0, .null, .null, .null, .null, .null, .int 0, .null])), (q1, .inl (cy 100, 4, .inl (fun _ => 0)))] := hD
  refine va_putF hx hb hts (ztIn 5 (by decide)) (tY 5) (tTy 5 (by decide)) (tNm 5 (by decide)) hown hK hP hD hS 0 rfl (tCl 5 (by decide)) 1 (by decide) (hts _ tm_66) (fun _ z => z) rfl hin rfl (tTy 5 (by decide) 1 (by decide)) rfl rfl (Nat.le_of_ble_eq_true rfl) id_5_8 (fun H locs hP hD hS => ?_)
  have hP : va_P D vwCl [(h0, .inr (5, [.int 0, .ref q1, .null, .null, .int 0, .null, .null, .null, .null, .null, .int 0, .null])), (q1, .inl (cy 100, 4, .inl (fun _ => 0)))] H := hP
  have hD : va_D A [(h0, .inr (5, [.int 0, .ref q1, .null, .null, .int 0, .null, .null, .null, .null, .null, .int 0, .null])), (q1, .inl (cy 100, 4, .inl (fun _ => 0)))] := hD
  refine lv_aload_n hx hb id_5_11 rfl (lv_at hl 0 rfl) ?_
  refine lv_iconst (v := 4) hx hb id_5_12 (by decide) ?_
  refine zn_int hx hb (hts _ tm_55) hK hP hD hS hA (N := 4) (by decide) (by decide) (by decide) (Nat.le_of_ble_eq_true rfl) (Nat.le_of_ble_eq_true rfl) id_5_13 (fun q2 H hP hD hS => ?_)
  refine W.widen (k := 2) (n := 8) (by decide) (by decide) ?_
  have hP : va_P D vwCl [(h0, .inr (5, [.int 0, .ref q1, .null, .null, .int 0, .null, .null, .null, .null, .null, .int 0, .null])), (q1, .inl (cy 100, 4, .inl (fun _ => 0))), (q2, .inl (cy 100, 4, .inl (fun _ => 0)))] H := hP
  have hD : va_D A [(h0, .inr (5, [.int 0, .ref q1, .null, .null, .int 0, .null, .null, .null, .null, .null, .int 0, .null])), (q1, .inl (cy 100, 4, .inl (fun _ => 0))), (q2, .inl (cy 100, 4, .inl (fun _ => 0)))] := hD
  refine va_putF hx hb hts (ztIn 5 (by decide)) (tY 5) (tTy 5 (by decide)) (tNm 5 (by decide)) hown hK hP hD hS 0 rfl (tCl 5 (by decide)) 2 (by decide) (hts _ tm_68) (fun _ z => z) rfl hin rfl (tTy 5 (by decide) 2 (by decide)) rfl rfl (Nat.le_of_ble_eq_true rfl) id_5_15 (fun H locs hP hD hS => ?_)
  have hP : va_P D vwCl [(h0, .inr (5, [.int 0, .ref q1, .ref q2, .null, .int 0, .null, .null, .null, .null, .null, .int 0, .null])), (q1, .inl (cy 100, 4, .inl (fun _ => 0))), (q2, .inl (cy 100, 4, .inl (fun _ => 0)))] H := hP
  have hD : va_D A [(h0, .inr (5, [.int 0, .ref q1, .ref q2, .null, .int 0, .null, .null, .null, .null, .null, .int 0, .null])), (q1, .inl (cy 100, 4, .inl (fun _ => 0))), (q2, .inl (cy 100, 4, .inl (fun _ => 0)))] := hD
  refine lv_aload_n hx hb id_5_18 rfl (lv_at hl 0 rfl) ?_
  refine lv_iconst (v := 4) hx hb id_5_19 (by decide) ?_
  refine zn_int hx hb (hts _ tm_55) hK hP hD hS hA (N := 4) (by decide) (by decide) (by decide) (Nat.le_of_ble_eq_true rfl) (Nat.le_of_ble_eq_true rfl) id_5_20 (fun q3 H hP hD hS => ?_)
  refine W.widen (k := 3) (n := 12) (by decide) (by decide) ?_
  have hP : va_P D vwCl [(h0, .inr (5, [.int 0, .ref q1, .ref q2, .null, .int 0, .null, .null, .null, .null, .null, .int 0, .null])), (q1, .inl (cy 100, 4, .inl (fun _ => 0))), (q2, .inl (cy 100, 4, .inl (fun _ => 0))), (q3, .inl (cy 100, 4, .inl (fun _ => 0)))] H := hP
  have hD : va_D A [(h0, .inr (5, [.int 0, .ref q1, .ref q2, .null, .int 0, .null, .null, .null, .null, .null, .int 0, .null])), (q1, .inl (cy 100, 4, .inl (fun _ => 0))), (q2, .inl (cy 100, 4, .inl (fun _ => 0))), (q3, .inl (cy 100, 4, .inl (fun _ => 0)))] := hD
  refine va_putF hx hb hts (ztIn 5 (by decide)) (tY 5) (tTy 5 (by decide)) (tNm 5 (by decide)) hown hK hP hD hS 0 rfl (tCl 5 (by decide)) 3 (by decide) (hts _ tm_71) (fun _ z => z) rfl hin rfl (tTy 5 (by decide) 3 (by decide)) rfl rfl (Nat.le_of_ble_eq_true rfl) id_5_22 (fun H locs hP hD hS => ?_)
  have hP : va_P D vwCl [(h0, .inr (5, [.int 0, .ref q1, .ref q2, .ref q3, .int 0, .null, .null, .null, .null, .null, .int 0, .null])), (q1, .inl (cy 100, 4, .inl (fun _ => 0))), (q2, .inl (cy 100, 4, .inl (fun _ => 0))), (q3, .inl (cy 100, 4, .inl (fun _ => 0)))] H := hP
  have hD : va_D A [(h0, .inr (5, [.int 0, .ref q1, .ref q2, .ref q3, .int 0, .null, .null, .null, .null, .null, .int 0, .null])), (q1, .inl (cy 100, 4, .inl (fun _ => 0))), (q2, .inl (cy 100, 4, .inl (fun _ => 0))), (q3, .inl (cy 100, 4, .inl (fun _ => 0)))] := hD
  refine lv_aload_n hx hb id_5_25 rfl (lv_at hl 0 rfl) ?_
  refine lv_bipush (v := 8) hx hb id_5_26 (by decide) ?_
  refine zn_int hx hb (hts _ tm_55) hK hP hD hS hA (N := 8) (by decide) (by decide) (by decide) (Nat.le_of_ble_eq_true rfl) (Nat.le_of_ble_eq_true rfl) id_5_28 (fun q4 H hP hD hS => ?_)
  refine W.widen (k := 4) (n := 20) (by decide) (by decide) ?_
  have hP : va_P D vwCl [(h0, .inr (5, [.int 0, .ref q1, .ref q2, .ref q3, .int 0, .null, .null, .null, .null, .null, .int 0, .null])), (q1, .inl (cy 100, 4, .inl (fun _ => 0))), (q2, .inl (cy 100, 4, .inl (fun _ => 0))), (q3, .inl (cy 100, 4, .inl (fun _ => 0))), (q4, .inl (cy 100, 8, .inl (fun _ => 0)))] H := hP
  have hD : va_D A [(h0, .inr (5, [.int 0, .ref q1, .ref q2, .ref q3, .int 0, .null, .null, .null, .null, .null, .int 0, .null])), (q1, .inl (cy 100, 4, .inl (fun _ => 0))), (q2, .inl (cy 100, 4, .inl (fun _ => 0))), (q3, .inl (cy 100, 4, .inl (fun _ => 0))), (q4, .inl (cy 100, 8, .inl (fun _ => 0)))] := hD
  refine va_putF hx hb hts (ztIn 5 (by decide)) (tY 5) (tTy 5 (by decide)) (tNm 5 (by decide)) hown hK hP hD hS 0 rfl (tCl 5 (by decide)) 5 (by decide) (hts _ tm_79) (fun _ z => z) rfl hin rfl (tTy 5 (by decide) 5 (by decide)) rfl rfl (Nat.le_of_ble_eq_true rfl) id_5_30 (fun H locs hP hD hS => ?_)
  have hP : va_P D vwCl [(h0, .inr (5, [.int 0, .ref q1, .ref q2, .ref q3, .int 0, .ref q4, .null, .null, .null, .null, .int 0, .null])), (q1, .inl (cy 100, 4, .inl (fun _ => 0))), (q2, .inl (cy 100, 4, .inl (fun _ => 0))), (q3, .inl (cy 100, 4, .inl (fun _ => 0))), (q4, .inl (cy 100, 8, .inl (fun _ => 0)))] H := hP
  have hD : va_D A [(h0, .inr (5, [.int 0, .ref q1, .ref q2, .ref q3, .int 0, .ref q4, .null, .null, .null, .null, .int 0, .null])), (q1, .inl (cy 100, 4, .inl (fun _ => 0))), (q2, .inl (cy 100, 4, .inl (fun _ => 0))), (q3, .inl (cy 100, 4, .inl (fun _ => 0))), (q4, .inl (cy 100, 8, .inl (fun _ => 0)))] := hD
  refine lv_aload_n hx hb id_5_33 rfl (lv_at hl 0 rfl) ?_
  refine lv_bipush (v := 8) hx hb id_5_34 (by decide) ?_
  refine zn_int hx hb (hts _ tm_55) hK hP hD hS hA (N := 8) (by decide) (by decide) (by decide) (Nat.le_of_ble_eq_true rfl) (Nat.le_of_ble_eq_true rfl) id_5_36 (fun q5 H hP hD hS => ?_)
  refine W.widen (k := 5) (n := 28) (by decide) (by decide) ?_
  have hP : va_P D vwCl [(h0, .inr (5, [.int 0, .ref q1, .ref q2, .ref q3, .int 0, .ref q4, .null, .null, .null, .null, .int 0, .null])), (q1, .inl (cy 100, 4, .inl (fun _ => 0))), (q2, .inl (cy 100, 4, .inl (fun _ => 0))), (q3, .inl (cy 100, 4, .inl (fun _ => 0))), (q4, .inl (cy 100, 8, .inl (fun _ => 0))), (q5, .inl (cy 100, 8, .inl (fun _ => 0)))] H := hP
  have hD : va_D A [(h0, .inr (5, [.int 0, .ref q1, .ref q2, .ref q3, .int 0, .ref q4, .null, .null, .null, .null, .int 0, .null])), (q1, .inl (cy 100, 4, .inl (fun _ => 0))), (q2, .inl (cy 100, 4, .inl (fun _ => 0))), (q3, .inl (cy 100, 4, .inl (fun _ => 0))), (q4, .inl (cy 100, 8, .inl (fun _ => 0))), (q5, .inl (cy 100, 8, .inl (fun _ => 0)))] := hD
  refine va_putF hx hb hts (ztIn 5 (by decide)) (tY 5) (tTy 5 (by decide)) (tNm 5 (by decide)) hown hK hP hD hS 0 rfl (tCl 5 (by decide)) 6 (by decide) (hts _ tm_82) (fun _ z => z) rfl hin rfl (tTy 5 (by decide) 6 (by decide)) rfl rfl (Nat.le_of_ble_eq_true rfl) id_5_38 (fun H locs hP hD hS => ?_)
  have hP : va_P D vwCl [(h0, .inr (5, [.int 0, .ref q1, .ref q2, .ref q3, .int 0, .ref q4, .ref q5, .null, .null, .null, .int 0, .null])), (q1, .inl (cy 100, 4, .inl (fun _ => 0))), (q2, .inl (cy 100, 4, .inl (fun _ => 0))), (q3, .inl (cy 100, 4, .inl (fun _ => 0))), (q4, .inl (cy 100, 8, .inl (fun _ => 0))), (q5, .inl (cy 100, 8, .inl (fun _ => 0)))] H := hP
  have hD : va_D A [(h0, .inr (5, [.int 0, .ref q1, .ref q2, .ref q3, .int 0, .ref q4, .ref q5, .null, .null, .null, .int 0, .null])), (q1, .inl (cy 100, 4, .inl (fun _ => 0))), (q2, .inl (cy 100, 4, .inl (fun _ => 0))), (q3, .inl (cy 100, 4, .inl (fun _ => 0))), (q4, .inl (cy 100, 8, .inl (fun _ => 0))), (q5, .inl (cy 100, 8, .inl (fun _ => 0)))] := hD
  refine lv_aload_n hx hb id_5_41 rfl (lv_at hl 0 rfl) ?_
  refine lv_bipush (v := 8) hx hb id_5_42 (by decide) ?_
  refine zn_int hx hb (hts _ tm_55) hK hP hD hS hA (N := 8) (by decide) (by decide) (by decide) (Nat.le_of_ble_eq_true rfl) (Nat.le_of_ble_eq_true rfl) id_5_44 (fun q6 H hP hD hS => ?_)
  refine W.widen (k := 6) (n := 36) (by decide) (by decide) ?_
  have hP : va_P D vwCl [(h0, .inr (5, [.int 0, .ref q1, .ref q2, .ref q3, .int 0, .ref q4, .ref q5, .null, .null, .null, .int 0, .null])), (q1, .inl (cy 100, 4, .inl (fun _ => 0))), (q2, .inl (cy 100, 4, .inl (fun _ => 0))), (q3, .inl (cy 100, 4, .inl (fun _ => 0))), (q4, .inl (cy 100, 8, .inl (fun _ => 0))), (q5, .inl (cy 100, 8, .inl (fun _ => 0))), (q6, .inl (cy 100, 8, .inl (fun _ => 0)))] H := hP
  have hD : va_D A [(h0, .inr (5, [.int 0, .ref q1, .ref q2, .ref q3, .int 0, .ref q4, .ref q5, .null, .null, .null, .int 0, .null])), (q1, .inl (cy 100, 4, .inl (fun _ => 0))), (q2, .inl (cy 100, 4, .inl (fun _ => 0))), (q3, .inl (cy 100, 4, .inl (fun _ => 0))), (q4, .inl (cy 100, 8, .inl (fun _ => 0))), (q5, .inl (cy 100, 8, .inl (fun _ => 0))), (q6, .inl (cy 100, 8, .inl (fun _ => 0)))] := hD
  refine va_putF hx hb hts (ztIn 5 (by decide)) (tY 5) (tTy 5 (by decide)) (tNm 5 (by decide)) hown hK hP hD hS 0 rfl (tCl 5 (by decide)) 7 (by decide) (hts _ tm_86) (fun _ z => z) rfl hin rfl (tTy 5 (by decide) 7 (by decide)) rfl rfl (Nat.le_of_ble_eq_true rfl) id_5_46 (fun H locs hP hD hS => ?_)
  have hP : va_P D vwCl [(h0, .inr (5, [.int 0, .ref q1, .ref q2, .ref q3, .int 0, .ref q4, .ref q5, .ref q6, .null, .null, .int 0, .null])), (q1, .inl (cy 100, 4, .inl (fun _ => 0))), (q2, .inl (cy 100, 4, .inl (fun _ => 0))), (q3, .inl (cy 100, 4, .inl (fun _ => 0))), (q4, .inl (cy 100, 8, .inl (fun _ => 0))), (q5, .inl (cy 100, 8, .inl (fun _ => 0))), (q6, .inl (cy 100, 8, .inl (fun _ => 0)))] H := hP
  have hD : va_D A [(h0, .inr (5, [.int 0, .ref q1, .ref q2, .ref q3, .int 0, .ref q4, .ref q5, .ref q6, .null, .null, .int 0, .null])), (q1, .inl (cy 100, 4, .inl (fun _ => 0))), (q2, .inl (cy 100, 4, .inl (fun _ => 0))), (q3, .inl (cy 100, 4, .inl (fun _ => 0))), (q4, .inl (cy 100, 8, .inl (fun _ => 0))), (q5, .inl (cy 100, 8, .inl (fun _ => 0))), (q6, .inl (cy 100, 8, .inl (fun _ => 0)))] := hD
  refine lv_aload_n hx hb id_5_49 rfl (lv_at hl 0 rfl) ?_
  refine lv_bipush (v := 8) hx hb id_5_50 (by decide) ?_
  refine zn_int hx hb (hts _ tm_55) hK hP hD hS hA (N := 8) (by decide) (by decide) (by decide) (Nat.le_of_ble_eq_true rfl) (Nat.le_of_ble_eq_true rfl) id_5_52 (fun q7 H hP hD hS => ?_)
  refine W.widen (k := 7) (n := 44) (by decide) (by decide) ?_
  have hP : va_P D vwCl [(h0, .inr (5, [.int 0, .ref q1, .ref q2, .ref q3, .int 0, .ref q4, .ref q5, .ref q6, .null, .null, .int 0, .null])), (q1, .inl (cy 100, 4, .inl (fun _ => 0))), (q2, .inl (cy 100, 4, .inl (fun _ => 0))), (q3, .inl (cy 100, 4, .inl (fun _ => 0))), (q4, .inl (cy 100, 8, .inl (fun _ => 0))), (q5, .inl (cy 100, 8, .inl (fun _ => 0))), (q6, .inl (cy 100, 8, .inl (fun _ => 0))), (q7, .inl (cy 100, 8, .inl (fun _ => 0)))] H := hP
  have hD : va_D A [(h0, .inr (5, [.int 0, .ref q1, .ref q2, .ref q3, .int 0, .ref q4, .ref q5, .ref q6, .null, .null, .int 0, .null])), (q1, .inl (cy 100, 4, .inl (fun _ => 0))), (q2, .inl (cy 100, 4, .inl (fun _ => 0))), (q3, .inl (cy 100, 4, .inl (fun _ => 0))), (q4, .inl (cy 100, 8, .inl (fun _ => 0))), (q5, .inl (cy 100, 8, .inl (fun _ => 0))), (q6, .inl (cy 100, 8, .inl (fun _ => 0))), (q7, .inl (cy 100, 8, .inl (fun _ => 0)))] := hD
  refine va_putF hx hb hts (ztIn 5 (by decide)) (tY 5) (tTy 5 (by decide)) (tNm 5 (by decide)) hown hK hP hD hS 0 rfl (tCl 5 (by decide)) 8 (by decide) (hts _ tm_89) (fun _ z => z) rfl hin rfl (tTy 5 (by decide) 8 (by decide)) rfl rfl (Nat.le_of_ble_eq_true rfl) id_5_54 (fun H locs hP hD hS => ?_)
  have hP : va_P D vwCl [(h0, .inr (5, [.int 0, .ref q1, .ref q2, .ref q3, .int 0, .ref q4, .ref q5, .ref q6, .ref q7, .null, .int 0, .null])), (q1, .inl (cy 100, 4, .inl (fun _ => 0))), (q2, .inl (cy 100, 4, .inl (fun _ => 0))), (q3, .inl (cy 100, 4, .inl (fun _ => 0))), (q4, .inl (cy 100, 8, .inl (fun _ => 0))), (q5, .inl (cy 100, 8, .inl (fun _ => 0))), (q6, .inl (cy 100, 8, .inl (fun _ => 0))), (q7, .inl (cy 100, 8, .inl (fun _ => 0)))] H := hP
  have hD : va_D A [(h0, .inr (5, [.int 0, .ref q1, .ref q2, .ref q3, .int 0, .ref q4, .ref q5, .ref q6, .ref q7, .null, .int 0, .null])), (q1, .inl (cy 100, 4, .inl (fun _ => 0))), (q2, .inl (cy 100, 4, .inl (fun _ => 0))), (q3, .inl (cy 100, 4, .inl (fun _ => 0))), (q4, .inl (cy 100, 8, .inl (fun _ => 0))), (q5, .inl (cy 100, 8, .inl (fun _ => 0))), (q6, .inl (cy 100, 8, .inl (fun _ => 0))), (q7, .inl (cy 100, 8, .inl (fun _ => 0)))] := hD
  refine lv_aload_n hx hb id_5_57 rfl (lv_at hl 0 rfl) ?_
  refine lv_bipush (v := 8) hx hb id_5_58 (by decide) ?_
  refine zn_int hx hb (hts _ tm_55) hK hP hD hS hA (N := 8) (by decide) (by decide) (by decide) (Nat.le_of_ble_eq_true rfl) (Nat.le_of_ble_eq_true rfl) id_5_60 (fun q8 H hP hD hS => ?_)
  refine W.widen (k := 8) (n := 52) (by decide) (by decide) ?_
  have hP : va_P D vwCl [(h0, .inr (5, [.int 0, .ref q1, .ref q2, .ref q3, .int 0, .ref q4, .ref q5, .ref q6, .ref q7, .null, .int 0, .null])), (q1, .inl (cy 100, 4, .inl (fun _ => 0))), (q2, .inl (cy 100, 4, .inl (fun _ => 0))), (q3, .inl (cy 100, 4, .inl (fun _ => 0))), (q4, .inl (cy 100, 8, .inl (fun _ => 0))), (q5, .inl (cy 100, 8, .inl (fun _ => 0))), (q6, .inl (cy 100, 8, .inl (fun _ => 0))), (q7, .inl (cy 100, 8, .inl (fun _ => 0))), (q8, .inl (cy 100, 8, .inl (fun _ => 0)))] H := hP
  have hD : va_D A [(h0, .inr (5, [.int 0, .ref q1, .ref q2, .ref q3, .int 0, .ref q4, .ref q5, .ref q6, .ref q7, .null, .int 0, .null])), (q1, .inl (cy 100, 4, .inl (fun _ => 0))), (q2, .inl (cy 100, 4, .inl (fun _ => 0))), (q3, .inl (cy 100, 4, .inl (fun _ => 0))), (q4, .inl (cy 100, 8, .inl (fun _ => 0))), (q5, .inl (cy 100, 8, .inl (fun _ => 0))), (q6, .inl (cy 100, 8, .inl (fun _ => 0))), (q7, .inl (cy 100, 8, .inl (fun _ => 0))), (q8, .inl (cy 100, 8, .inl (fun _ => 0)))] := hD
  refine va_putF hx hb hts (ztIn 5 (by decide)) (tY 5) (tTy 5 (by decide)) (tNm 5 (by decide)) hown hK hP hD hS 0 rfl (tCl 5 (by decide)) 9 (by decide) (hts _ tm_93) (fun _ z => z) rfl hin rfl (tTy 5 (by decide) 9 (by decide)) rfl rfl (Nat.le_of_ble_eq_true rfl) id_5_62 (fun H locs hP hD hS => ?_)
  have hP : va_P D vwCl [(h0, .inr (5, [.int 0, .ref q1, .ref q2, .ref q3, .int 0, .ref q4, .ref q5, .ref q6, .ref q7, .ref q8, .int 0, .null])), (q1, .inl (cy 100, 4, .inl (fun _ => 0))), (q2, .inl (cy 100, 4, .inl (fun _ => 0))), (q3, .inl (cy 100, 4, .inl (fun _ => 0))), (q4, .inl (cy 100, 8, .inl (fun _ => 0))), (q5, .inl (cy 100, 8, .inl (fun _ => 0))), (q6, .inl (cy 100, 8, .inl (fun _ => 0))), (q7, .inl (cy 100, 8, .inl (fun _ => 0))), (q8, .inl (cy 100, 8, .inl (fun _ => 0)))] H := hP
  have hD : va_D A [(h0, .inr (5, [.int 0, .ref q1, .ref q2, .ref q3, .int 0, .ref q4, .ref q5, .ref q6, .ref q7, .ref q8, .int 0, .null])), (q1, .inl (cy 100, 4, .inl (fun _ => 0))), (q2, .inl (cy 100, 4, .inl (fun _ => 0))), (q3, .inl (cy 100, 4, .inl (fun _ => 0))), (q4, .inl (cy 100, 8, .inl (fun _ => 0))), (q5, .inl (cy 100, 8, .inl (fun _ => 0))), (q6, .inl (cy 100, 8, .inl (fun _ => 0))), (q7, .inl (cy 100, 8, .inl (fun _ => 0))), (q8, .inl (cy 100, 8, .inl (fun _ => 0)))] := hD
  refine lv_aload_n hx hb id_5_65 rfl (lv_at hl 0 rfl) ?_
  refine lv_bipush (v := 8) hx hb id_5_66 (by decide) ?_
  refine zn_int hx hb (hts _ tm_55) hK hP hD hS hA (N := 8) (by decide) (by decide) (by decide) (Nat.le_of_ble_eq_true rfl) (Nat.le_of_ble_eq_true rfl) id_5_68 (fun q9 H hP hD hS => ?_)
  refine W.widen (k := 9) (n := 60) (by decide) (by decide) ?_
  have hP : va_P D vwCl [(h0, .inr (5, [.int 0, .ref q1, .ref q2, .ref q3, .int 0, .ref q4, .ref q5, .ref q6, .ref q7, .ref q8, .int 0, .null])), (q1, .inl (cy 100, 4, .inl (fun _ => 0))), (q2, .inl (cy 100, 4, .inl (fun _ => 0))), (q3, .inl (cy 100, 4, .inl (fun _ => 0))), (q4, .inl (cy 100, 8, .inl (fun _ => 0))), (q5, .inl (cy 100, 8, .inl (fun _ => 0))), (q6, .inl (cy 100, 8, .inl (fun _ => 0))), (q7, .inl (cy 100, 8, .inl (fun _ => 0))), (q8, .inl (cy 100, 8, .inl (fun _ => 0))), (q9, .inl (cy 100, 8, .inl (fun _ => 0)))] H := hP
  have hD : va_D A [(h0, .inr (5, [.int 0, .ref q1, .ref q2, .ref q3, .int 0, .ref q4, .ref q5, .ref q6, .ref q7, .ref q8, .int 0, .null])), (q1, .inl (cy 100, 4, .inl (fun _ => 0))), (q2, .inl (cy 100, 4, .inl (fun _ => 0))), (q3, .inl (cy 100, 4, .inl (fun _ => 0))), (q4, .inl (cy 100, 8, .inl (fun _ => 0))), (q5, .inl (cy 100, 8, .inl (fun _ => 0))), (q6, .inl (cy 100, 8, .inl (fun _ => 0))), (q7, .inl (cy 100, 8, .inl (fun _ => 0))), (q8, .inl (cy 100, 8, .inl (fun _ => 0))), (q9, .inl (cy 100, 8, .inl (fun _ => 0)))] := hD
  refine va_putF hx hb hts (ztIn 5 (by decide)) (tY 5) (tTy 5 (by decide)) (tNm 5 (by decide)) hown hK hP hD hS 0 rfl (tCl 5 (by decide)) 11 (by decide) (hts _ tm_100) (fun _ z => z) rfl hin rfl (tTy 5 (by decide) 11 (by decide)) rfl rfl (Nat.le_of_ble_eq_true rfl) id_5_70 (fun H locs hP hD hS => ?_)
  have hP : va_P D vwCl [(h0, .inr (5, [.int 0, .ref q1, .ref q2, .ref q3, .int 0, .ref q4, .ref q5, .ref q6, .ref q7, .ref q8, .int 0, .ref q9])), (q1, .inl (cy 100, 4, .inl (fun _ => 0))), (q2, .inl (cy 100, 4, .inl (fun _ => 0))), (q3, .inl (cy 100, 4, .inl (fun _ => 0))), (q4, .inl (cy 100, 8, .inl (fun _ => 0))), (q5, .inl (cy 100, 8, .inl (fun _ => 0))), (q6, .inl (cy 100, 8, .inl (fun _ => 0))), (q7, .inl (cy 100, 8, .inl (fun _ => 0))), (q8, .inl (cy 100, 8, .inl (fun _ => 0))), (q9, .inl (cy 100, 8, .inl (fun _ => 0)))] H := hP
  have hD : va_D A [(h0, .inr (5, [.int 0, .ref q1, .ref q2, .ref q3, .int 0, .ref q4, .ref q5, .ref q6, .ref q7, .ref q8, .int 0, .ref q9])), (q1, .inl (cy 100, 4, .inl (fun _ => 0))), (q2, .inl (cy 100, 4, .inl (fun _ => 0))), (q3, .inl (cy 100, 4, .inl (fun _ => 0))), (q4, .inl (cy 100, 8, .inl (fun _ => 0))), (q5, .inl (cy 100, 8, .inl (fun _ => 0))), (q6, .inl (cy 100, 8, .inl (fun _ => 0))), (q7, .inl (cy 100, 8, .inl (fun _ => 0))), (q8, .inl (cy 100, 8, .inl (fun _ => 0))), (q9, .inl (cy 100, 8, .inl (fun _ => 0)))] := hD
  exact W.vret hx hb hr (fun t ht hW => ⟨⟨(fun j => [h0, q1, q2, q3, q4, q5, q6, q7, q8, q9].getD j 0, fun _ => -1), rfl, ⟨rfl, fun _ _ => rfl⟩, by rw [ht]; exact hP, hD⟩, hS.F ht⟩) hS.2.2 id_5_73
abbrev ic_0 : ByteArray := prog_2_method_1_code
def iy_0 : MethodName := ⟨"SleeveSlips$Chances", "<init>", "()V"⟩
def iw_0 : List Cond := Cond.code iy_0 ic_0 1 none :: ztb
theorem ii_0 : ∀ w ∈ iw_0, w ∈ ztb := fun w hw => by
  rcases List.mem_cons.mp hw with rfl | hw
  · exact tm_181
  · exact hw
theorem id_0_0 : decode ic_0 0 = .ok (.aload_n 0, 1) := by decide +kernel
theorem id_0_1 : decode ic_0 1 = .ok (.invokespecial 3, 3) := by decide +kernel
theorem id_0_4 : decode ic_0 4 = .ok (.aload_n 0, 1) := by decide +kernel
theorem id_0_5 : decode ic_0 5 = .ok (.iconst 3, 1) := by decide +kernel
theorem id_0_6 : decode ic_0 6 = .ok (.newarray .int, 2) := by decide +kernel
theorem id_0_8 : decode ic_0 8 = .ok (.putfield 9, 3) := by decide +kernel
theorem id_0_11 : decode ic_0 11 = .ok (.aload_n 0, 1) := by decide +kernel
theorem id_0_12 : decode ic_0 12 = .ok (.iconst 3, 1) := by decide +kernel
theorem id_0_13 : decode ic_0 13 = .ok (.newarray .int, 2) := by decide +kernel
theorem id_0_15 : decode ic_0 15 = .ok (.putfield 15, 3) := by decide +kernel
theorem id_0_18 : decode ic_0 18 = .ok (.aload_n 0, 1) := by decide +kernel
theorem id_0_19 : decode ic_0 19 = .ok (.iconst 3, 1) := by decide +kernel
theorem id_0_20 : decode ic_0 20 = .ok (.newarray .int, 2) := by decide +kernel
theorem id_0_22 : decode ic_0 22 = .ok (.putfield 18, 3) := by decide +kernel
theorem id_0_25 : decode ic_0 25 = .ok (.aload_n 0, 1) := by decide +kernel
theorem id_0_26 : decode ic_0 26 = .ok (.iconst 3, 1) := by decide +kernel
theorem id_0_27 : decode ic_0 27 = .ok (.newarray .boolean, 2) := by decide +kernel
theorem id_0_29 : decode ic_0 29 = .ok (.putfield 21, 3) := by decide +kernel
theorem id_0_32 : decode ic_0 32 = .ok (.aload_n 0, 1) := by decide +kernel
theorem id_0_33 : decode ic_0 33 = .ok (.bipush 7, 2) := by decide +kernel
theorem id_0_35 : decode ic_0 35 = .ok (.bipush 6, 2) := by decide +kernel
theorem id_0_37 : decode ic_0 37 = .ok (.multianewarray 25 2, 4) := by decide +kernel
theorem id_0_41 : decode ic_0 41 = .ok (.putfield 27, 3) := by decide +kernel
theorem id_0_44 : decode ic_0 44 = .ok (.return_, 1) := by decide +kernel
def iW_0 (cy : Nat → ClassId) (u : (Nat → Nat) × (Nat → Int32)) : va_W := [(u.1 0, .inr (0, [.ref (u.1 1), .ref (u.1 2), .ref (u.1 3), .ref (u.1 4), .ref (u.1 5), .long 0, .long 0])), (u.1 1, .inl (cy 100, 3, .inl (fun _ => 0))), (u.1 2, .inl (cy 100, 3, .inl (fun _ => 0))), (u.1 3, .inl (cy 100, 3, .inl (fun _ => 0))), (u.1 4, .inl (cy 102, 3, .inl (fun _ => 0))), (u.1 5, .inl (cy 105, 7, .inr (.inr (.inr (.inr (fun i => some (u.1 5 + 1 + i))))))), (u.1 5 + 1 + 0, .inl (cy 103, 6, .inr (.inl (fun _ => 0)))), (u.1 5 + 1 + 1, .inl (cy 103, 6, .inr (.inl (fun _ => 0)))), (u.1 5 + 1 + 2, .inl (cy 103, 6, .inr (.inl (fun _ => 0)))), (u.1 5 + 1 + 3, .inl (cy 103, 6, .inr (.inl (fun _ => 0)))), (u.1 5 + 1 + 4, .inl (cy 103, 6, .inr (.inl (fun _ => 0)))), (u.1 5 + 1 + 5, .inl (cy 103, 6, .inr (.inl (fun _ => 0)))), (u.1 5 + 1 + 6, .inl (cy 103, 6, .inr (.inl (fun _ => 0))))]
abbrev iD_0 (h0 : Nat) : va_W := [(h0, .inr (0, [.null, .null, .null, .null, .null, .long 0, .long 0]))]
set_option maxHeartbeats 4000000 in
set_option maxRecDepth 100000 in
theorem i_0 (l : Launch) (cy : Nat → ClassId) (D : va_G) (h0 sz : Nat) : Met l iy_0 iw_0 ({ frames := 1, cells := 12, slots := 61, locals := 12 }) (va_Pc [.ref h0] (fun U => U.heap.size = sz ∧ va_P D vwCl (iD_0 h0) U.heap ∧ va_K D vwCl (ztys cy) U ∧ va_D (fun _ => True) (iD_0 h0) ∧ (∃ kA, U.vm.classes[cy 105]? = some kA ∧ kA.kind = .array (cy 103) (.array .long)))) (va_Qv (fun u : (Nat → Nat) × (Nat → Int32) => u.1 0 = h0 ∧ ∀ j, j < 8 → u.2 j = -1) (fun u t => va_P D vwCl (iW_0 cy u) t.heap ∧ va_D (va_A (iD_0 h0) sz) (iW_0 cy u)) (va_A (iD_0 h0) sz)) 12 61 (va_A (iD_0 h0) sz) := by
  refine Met.ofW (cc := ic_0) (maxL := 1) (ret := none) (by decide) rfl ?_
  intro p e s m args below meth c s₁ B hml hv
  obtain ⟨rfl, hsz, hP, hK, hD0, hM⟩ := hv
  have hx := B.exec
  have hb := B.bytes
  have hr := B.returns
  have hts : ∀ w ∈ ztb, w.before ([.ref h0] : List Value).toArray s = true := fun w hw => atoms_spec (ws := iw_0) B.pre w (List.mem_cons_of_mem _ hw)
  have hown : s.vm.findClass "SleeveSlips$Chances" = some m.cls := findClass_of_methodNamed B.named
  have hlocks := B.notSynchronized
  have hin : meth.name = "<init>" := (name_of_methodNamed B.named B.method).1
  subst hsz
  have hD := hD0.self (sz := s.heap.size)
  generalize hAe : va_A (iD_0 h0) s.heap.size = A at hD ⊢
  have hA : ∀ q : Nat, s.heap.size ≤ q → A q := fun q h => by rw [← hAe]; exact Or.inr h
  have hS : va_S A s.heap s.heap [] := va_S.rf
  have hl := lv_entry ([.ref h0]) (n := 1) (Nat.le_of_ble_eq_true rfl)
  rw [lg_entry_eq]
  generalize (lg_sl ([.ref h0] : List Value) ++ List.replicate (1 - (lg_sl ([.ref h0] : List Value)).length) Slot.unset).toArray = ls at hl ⊢
  have hl : lv_has ls 1 [(0, .ref h0)] := hl
  refine lv_aload_n hx hb id_0_0 rfl (lv_at hl 0 rfl) ?_
  refine W.objInit hx hb hown (hts _ tm_182) (hts _ tm_23) (hts _ tm_24) rfl (by rw [hml]; exact hl.1) rfl id_0_1 (Nat.le_of_ble_eq_true rfl) (Nat.le_of_ble_eq_true rfl) ?_
  refine W.eq (g2 := F0 m 4 ls []) rfl ?_
  refine lv_aload_n hx hb id_0_4 rfl (lv_at hl 0 rfl) ?_
  refine lv_iconst (v := 3) hx hb id_0_5 (by decide) ?_
  refine zn_int hx hb (hts _ tm_55) hK hP hD hS hA (N := 3) (by decide) (by decide) (by decide) (Nat.le_of_ble_eq_true rfl) (Nat.le_of_ble_eq_true rfl) id_0_6 (fun q1 H hP hD hS => ?_)
  refine W.widen (k := 1) (n := 3) (by decide) (by decide) ?_
  have hP : va_P D vwCl [(h0, .inr (0, [.null, .null, .null, .null, .null, .long 0, .long 0])), (q1, .inl (cy 100, 3, .inl (fun _ => 0)))] H := hP
  have hD : va_D A [(h0, .inr (0, [.null, .null, .null, .null, .null, .long 0, .long 0])), (q1, .inl (cy 100, 3, .inl (fun _ => 0)))] := hD
  refine va_putF hx hb hts (ztIn 0 (by decide)) (tY 0) (tTy 0 (by decide)) (tNm 0 (by decide)) hown hK hP hD hS 0 rfl (tCl 0 (by decide)) 0 (by decide) (hts _ tm_185) (fun _ z => z) rfl hin rfl (tTy 0 (by decide) 0 (by decide)) rfl rfl (Nat.le_of_ble_eq_true rfl) id_0_8 (fun H locs hP hD hS => ?_)
  have hP : va_P D vwCl [(h0, .inr (0, [.ref q1, .null, .null, .null, .null, .long 0, .long 0])), (q1, .inl (cy 100, 3, .inl (fun _ => 0)))] H := hP
  have hD : va_D A [(h0, .inr (0, [.ref q1, .null, .null, .null, .null, .long 0, .long 0])), (q1, .inl (cy 100, 3, .inl (fun _ => 0)))] := hD
  refine lv_aload_n hx hb id_0_11 rfl (lv_at hl 0 rfl) ?_
  refine lv_iconst (v := 3) hx hb id_0_12 (by decide) ?_
  refine zn_int hx hb (hts _ tm_55) hK hP hD hS hA (N := 3) (by decide) (by decide) (by decide) (Nat.le_of_ble_eq_true rfl) (Nat.le_of_ble_eq_true rfl) id_0_13 (fun q2 H hP hD hS => ?_)
  refine W.widen (k := 2) (n := 6) (by decide) (by decide) ?_
  have hP : va_P D vwCl [(h0, .inr (0, [.ref q1, .null, .null, .null, .null, .long 0, .long 0])), (q1, .inl (cy 100, 3, .inl (fun _ => 0))), (q2, .inl (cy 100, 3, .inl (fun _ => 0)))] H := hP
  have hD : va_D A [(h0, .inr (0, [.ref q1, .null, .null, .null, .null, .long 0, .long 0])), (q1, .inl (cy 100, 3, .inl (fun _ => 0))), (q2, .inl (cy 100, 3, .inl (fun _ => 0)))] := hD
  refine va_putF hx hb hts (ztIn 0 (by decide)) (tY 0) (tTy 0 (by decide)) (tNm 0 (by decide)) hown hK hP hD hS 0 rfl (tCl 0 (by decide)) 1 (by decide) (hts _ tm_187) (fun _ z => z) rfl hin rfl (tTy 0 (by decide) 1 (by decide)) rfl rfl (Nat.le_of_ble_eq_true rfl) id_0_15 (fun H locs hP hD hS => ?_)
  have hP : va_P D vwCl [(h0, .inr (0, [.ref q1, .ref q2, .null, .null, .null, .long 0, .long 0])), (q1, .inl (cy 100, 3, .inl (fun _ => 0))), (q2, .inl (cy 100, 3, .inl (fun _ => 0)))] H := hP
  have hD : va_D A [(h0, .inr (0, [.ref q1, .ref q2, .null, .null, .null, .long 0, .long 0])), (q1, .inl (cy 100, 3, .inl (fun _ => 0))), (q2, .inl (cy 100, 3, .inl (fun _ => 0)))] := hD
  refine lv_aload_n hx hb id_0_18 rfl (lv_at hl 0 rfl) ?_
  refine lv_iconst (v := 3) hx hb id_0_19 (by decide) ?_
  refine zn_int hx hb (hts _ tm_55) hK hP hD hS hA (N := 3) (by decide) (by decide) (by decide) (Nat.le_of_ble_eq_true rfl) (Nat.le_of_ble_eq_true rfl) id_0_20 (fun q3 H hP hD hS => ?_)
  refine W.widen (k := 3) (n := 9) (by decide) (by decide) ?_
  have hP : va_P D vwCl [(h0, .inr (0, [.ref q1, .ref q2, .null, .null, .null, .long 0, .long 0])), (q1, .inl (cy 100, 3, .inl (fun _ => 0))), (q2, .inl (cy 100, 3, .inl (fun _ => 0))), (q3, .inl (cy 100, 3, .inl (fun _ => 0)))] H := hP
  have hD : va_D A [(h0, .inr (0, [.ref q1, .ref q2, .null, .null, .null, .long 0, .long 0])), (q1, .inl (cy 100, 3, .inl (fun _ => 0))), (q2, .inl (cy 100, 3, .inl (fun _ => 0))), (q3, .inl (cy 100, 3, .inl (fun _ => 0)))] := hD
  refine va_putF hx hb hts (ztIn 0 (by decide)) (tY 0) (tTy 0 (by decide)) (tNm 0 (by decide)) hown hK hP hD hS 0 rfl (tCl 0 (by decide)) 2 (by decide) (hts _ tm_188) (fun _ z => z) rfl hin rfl (tTy 0 (by decide) 2 (by decide)) rfl rfl (Nat.le_of_ble_eq_true rfl) id_0_22 (fun H locs hP hD hS => ?_)
  have hP : va_P D vwCl [(h0, .inr (0, [.ref q1, .ref q2, .ref q3, .null, .null, .long 0, .long 0])), (q1, .inl (cy 100, 3, .inl (fun _ => 0))), (q2, .inl (cy 100, 3, .inl (fun _ => 0))), (q3, .inl (cy 100, 3, .inl (fun _ => 0)))] H := hP
  have hD : va_D A [(h0, .inr (0, [.ref q1, .ref q2, .ref q3, .null, .null, .long 0, .long 0])), (q1, .inl (cy 100, 3, .inl (fun _ => 0))), (q2, .inl (cy 100, 3, .inl (fun _ => 0))), (q3, .inl (cy 100, 3, .inl (fun _ => 0)))] := hD
  refine lv_aload_n hx hb id_0_25 rfl (lv_at hl 0 rfl) ?_
  refine lv_iconst (v := 3) hx hb id_0_26 (by decide) ?_
  refine zn_boolean hx hb (hts _ tm_211) hK hP hD hS hA (N := 3) (by decide) (by decide) (by decide) (Nat.le_of_ble_eq_true rfl) (Nat.le_of_ble_eq_true rfl) id_0_27 (fun q4 H hP hD hS => ?_)
  refine W.widen (k := 4) (n := 12) (by decide) (by decide) ?_
  have hP : va_P D vwCl [(h0, .inr (0, [.ref q1, .ref q2, .ref q3, .null, .null, .long 0, .long 0])), (q1, .inl (cy 100, 3, .inl (fun _ => 0))), (q2, .inl (cy 100, 3, .inl (fun _ => 0))), (q3, .inl (cy 100, 3, .inl (fun _ => 0))), (q4, .inl (cy 102, 3, .inl (fun _ => 0)))] H := hP
  have hD : va_D A [(h0, .inr (0, [.ref q1, .ref q2, .ref q3, .null, .null, .long 0, .long 0])), (q1, .inl (cy 100, 3, .inl (fun _ => 0))), (q2, .inl (cy 100, 3, .inl (fun _ => 0))), (q3, .inl (cy 100, 3, .inl (fun _ => 0))), (q4, .inl (cy 102, 3, .inl (fun _ => 0)))] := hD
  refine va_putF hx hb hts (ztIn 0 (by decide)) (tY 0) (tTy 0 (by decide)) (tNm 0 (by decide)) hown hK hP hD hS 0 rfl (tCl 0 (by decide)) 3 (by decide) (hts _ tm_189) (fun _ z => z) rfl hin rfl (tTy 0 (by decide) 3 (by decide)) rfl rfl (Nat.le_of_ble_eq_true rfl) id_0_29 (fun H locs hP hD hS => ?_)
  have hP : va_P D vwCl [(h0, .inr (0, [.ref q1, .ref q2, .ref q3, .ref q4, .null, .long 0, .long 0])), (q1, .inl (cy 100, 3, .inl (fun _ => 0))), (q2, .inl (cy 100, 3, .inl (fun _ => 0))), (q3, .inl (cy 100, 3, .inl (fun _ => 0))), (q4, .inl (cy 102, 3, .inl (fun _ => 0)))] H := hP
  have hD : va_D A [(h0, .inr (0, [.ref q1, .ref q2, .ref q3, .ref q4, .null, .long 0, .long 0])), (q1, .inl (cy 100, 3, .inl (fun _ => 0))), (q2, .inl (cy 100, 3, .inl (fun _ => 0))), (q3, .inl (cy 100, 3, .inl (fun _ => 0))), (q4, .inl (cy 102, 3, .inl (fun _ => 0)))] := hD
  refine lv_aload_n hx hb id_0_32 rfl (lv_at hl 0 rfl) ?_
  refine lv_bipush (v := 7) hx hb id_0_33 (by decide) ?_
  refine lv_bipush (v := 6) hx hb id_0_35 (by decide) ?_
  obtain ⟨kA, hkA, hkindA⟩ := hM
  obtain ⟨hJ1, hJ2⟩ := hK.2 3 (cy 103, .long) rfl
  obtain ⟨-, kJ, hkJ, compJ, hkindJ⟩ := hJ1 0 (fun _ => .null)
  have hfA : s.vm.findClass "[[J" = some (cy 105) := (hK.2 5 (cy 105, .array .long) rfl).2
  refine va_mna hx hb hown (hts _ tm_183) hfA hkA hkindA hkJ hkindJ hP hD hS hA (Nat.le_of_ble_eq_true rfl) (Nat.le_of_ble_eq_true rfl) id_0_37 (fun q5 H locs hP hD hS => ?_)
  refine W.widen (k := 12) (n := 61) (by decide) (by decide) ?_
  have hP : va_P D vwCl [(h0, .inr (0, [.ref q1, .ref q2, .ref q3, .ref q4, .null, .long 0, .long 0])), (q1, .inl (cy 100, 3, .inl (fun _ => 0))), (q2, .inl (cy 100, 3, .inl (fun _ => 0))), (q3, .inl (cy 100, 3, .inl (fun _ => 0))), (q4, .inl (cy 102, 3, .inl (fun _ => 0))), (q5, .inl (cy 105, 7, .inr (.inr (.inr (.inr (fun i => some (q5 + 1 + i))))))), (q5 + 1 + 0, .inl (cy 103, 6, .inr (.inl (fun _ => 0)))), (q5 + 1 + 1, .inl (cy 103, 6, .inr (.inl (fun _ => 0)))), (q5 + 1 + 2, .inl (cy 103, 6, .inr (.inl (fun _ => 0)))), (q5 + 1 + 3, .inl (cy 103, 6, .inr (.inl (fun _ => 0)))), (q5 + 1 + 4, .inl (cy 103, 6, .inr (.inl (fun _ => 0)))), (q5 + 1 + 5, .inl (cy 103, 6, .inr (.inl (fun _ => 0)))), (q5 + 1 + 6, .inl (cy 103, 6, .inr (.inl (fun _ => 0))))] H := hP
  have hD : va_D A [(h0, .inr (0, [.ref q1, .ref q2, .ref q3, .ref q4, .null, .long 0, .long 0])), (q1, .inl (cy 100, 3, .inl (fun _ => 0))), (q2, .inl (cy 100, 3, .inl (fun _ => 0))), (q3, .inl (cy 100, 3, .inl (fun _ => 0))), (q4, .inl (cy 102, 3, .inl (fun _ => 0))), (q5, .inl (cy 105, 7, .inr (.inr (.inr (.inr (fun i => some (q5 + 1 + i))))))), (q5 + 1 + 0, .inl (cy 103, 6, .inr (.inl (fun _ => 0)))), (q5 + 1 + 1, .inl (cy 103, 6, .inr (.inl (fun _ => 0)))), (q5 + 1 + 2, .inl (cy 103, 6, .inr (.inl (fun _ => 0)))), (q5 + 1 + 3, .inl (cy 103, 6, .inr (.inl (fun _ => 0)))), (q5 + 1 + 4, .inl (cy 103, 6, .inr (.inl (fun _ => 0)))), (q5 + 1 + 5, .inl (cy 103, 6, .inr (.inl (fun _ => 0)))), (q5 + 1 + 6, .inl (cy 103, 6, .inr (.inl (fun _ => 0))))] := hD
  refine va_putF hx hb hts (ztIn 0 (by decide)) (tY 0) (tTy 0 (by decide)) (tNm 0 (by decide)) hown hK hP hD hS 0 rfl (tCl 0 (by decide)) 4 (by decide) (hts _ tm_191) (fun _ z => z) rfl hin rfl (tTy 0 (by decide) 4 (by decide)) rfl rfl (Nat.le_of_ble_eq_true rfl) id_0_41 (fun H locs hP hD hS => ?_)
  have hP : va_P D vwCl [(h0, .inr (0, [.ref q1, .ref q2, .ref q3, .ref q4, .ref q5, .long 0, .long 0])), (q1, .inl (cy 100, 3, .inl (fun _ => 0))), (q2, .inl (cy 100, 3, .inl (fun _ => 0))), (q3, .inl (cy 100, 3, .inl (fun _ => 0))), (q4, .inl (cy 102, 3, .inl (fun _ => 0))), (q5, .inl (cy 105, 7, .inr (.inr (.inr (.inr (fun i => some (q5 + 1 + i))))))), (q5 + 1 + 0, .inl (cy 103, 6, .inr (.inl (fun _ => 0)))), (q5 + 1 + 1, .inl (cy 103, 6, .inr (.inl (fun _ => 0)))), (q5 + 1 + 2, .inl (cy 103, 6, .inr (.inl (fun _ => 0)))), (q5 + 1 + 3, .inl (cy 103, 6, .inr (.inl (fun _ => 0)))), (q5 + 1 + 4, .inl (cy 103, 6, .inr (.inl (fun _ => 0)))), (q5 + 1 + 5, .inl (cy 103, 6, .inr (.inl (fun _ => 0)))), (q5 + 1 + 6, .inl (cy 103, 6, .inr (.inl (fun _ => 0))))] H := hP
  have hD : va_D A [(h0, .inr (0, [.ref q1, .ref q2, .ref q3, .ref q4, .ref q5, .long 0, .long 0])), (q1, .inl (cy 100, 3, .inl (fun _ => 0))), (q2, .inl (cy 100, 3, .inl (fun _ => 0))), (q3, .inl (cy 100, 3, .inl (fun _ => 0))), (q4, .inl (cy 102, 3, .inl (fun _ => 0))), (q5, .inl (cy 105, 7, .inr (.inr (.inr (.inr (fun i => some (q5 + 1 + i))))))), (q5 + 1 + 0, .inl (cy 103, 6, .inr (.inl (fun _ => 0)))), (q5 + 1 + 1, .inl (cy 103, 6, .inr (.inl (fun _ => 0)))), (q5 + 1 + 2, .inl (cy 103, 6, .inr (.inl (fun _ => 0)))), (q5 + 1 + 3, .inl (cy 103, 6, .inr (.inl (fun _ => 0)))), (q5 + 1 + 4, .inl (cy 103, 6, .inr (.inl (fun _ => 0)))), (q5 + 1 + 5, .inl (cy 103, 6, .inr (.inl (fun _ => 0)))), (q5 + 1 + 6, .inl (cy 103, 6, .inr (.inl (fun _ => 0))))] := hD
  exact W.vret hx hb hr (fun t ht hW => ⟨⟨(fun j => [h0, q1, q2, q3, q4, q5].getD j 0, fun _ => -1), rfl, ⟨rfl, fun _ _ => rfl⟩, by rw [ht]; exact hP, hD⟩, hS.F ht⟩) hS.2.2 id_0_44
abbrev ic_2 : ByteArray := prog_4_method_1_code
def iy_2 : MethodName := ⟨"SleeveSlips$Now", "<init>", "()V"⟩
def iw_2 : List Cond := Cond.code iy_2 ic_2 1 none :: ztb
theorem ii_2 : ∀ w ∈ iw_2, w ∈ ztb := fun w hw => by
  rcases List.mem_cons.mp hw with rfl | hw
  · exact tm_132
  · exact hw
theorem id_2_0 : decode ic_2 0 = .ok (.aload_n 0, 1) := by decide +kernel
theorem id_2_1 : decode ic_2 1 = .ok (.invokespecial 3, 3) := by decide +kernel
theorem id_2_4 : decode ic_2 4 = .ok (.aload_n 0, 1) := by decide +kernel
theorem id_2_5 : decode ic_2 5 = .ok (.bipush 8, 2) := by decide +kernel
theorem id_2_7 : decode ic_2 7 = .ok (.newarray .int, 2) := by decide +kernel
theorem id_2_9 : decode ic_2 9 = .ok (.putfield 9, 3) := by decide +kernel
theorem id_2_12 : decode ic_2 12 = .ok (.aload_n 0, 1) := by decide +kernel
theorem id_2_13 : decode ic_2 13 = .ok (.bipush 8, 2) := by decide +kernel
theorem id_2_15 : decode ic_2 15 = .ok (.newarray .int, 2) := by decide +kernel
theorem id_2_17 : decode ic_2 17 = .ok (.putfield 15, 3) := by decide +kernel
theorem id_2_20 : decode ic_2 20 = .ok (.aload_n 0, 1) := by decide +kernel
theorem id_2_21 : decode ic_2 21 = .ok (.bipush 8, 2) := by decide +kernel
theorem id_2_23 : decode ic_2 23 = .ok (.newarray .int, 2) := by decide +kernel
theorem id_2_25 : decode ic_2 25 = .ok (.putfield 18, 3) := by decide +kernel
theorem id_2_28 : decode ic_2 28 = .ok (.aload_n 0, 1) := by decide +kernel
theorem id_2_29 : decode ic_2 29 = .ok (.iconst 4, 1) := by decide +kernel
theorem id_2_30 : decode ic_2 30 = .ok (.newarray .int, 2) := by decide +kernel
theorem id_2_32 : decode ic_2 32 = .ok (.putfield 21, 3) := by decide +kernel
theorem id_2_35 : decode ic_2 35 = .ok (.aload_n 0, 1) := by decide +kernel
theorem id_2_36 : decode ic_2 36 = .ok (.bipush 20, 2) := by decide +kernel
theorem id_2_38 : decode ic_2 38 = .ok (.newarray .int, 2) := by decide +kernel
theorem id_2_40 : decode ic_2 40 = .ok (.putfield 24, 3) := by decide +kernel
theorem id_2_43 : decode ic_2 43 = .ok (.aload_n 0, 1) := by decide +kernel
theorem id_2_44 : decode ic_2 44 = .ok (.bipush 60, 2) := by decide +kernel
theorem id_2_46 : decode ic_2 46 = .ok (.newarray .int, 2) := by decide +kernel
theorem id_2_48 : decode ic_2 48 = .ok (.putfield 27, 3) := by decide +kernel
theorem id_2_51 : decode ic_2 51 = .ok (.aload_n 0, 1) := by decide +kernel
theorem id_2_52 : decode ic_2 52 = .ok (.getfield 18, 3) := by decide +kernel
theorem id_2_55 : decode ic_2 55 = .ok (.iconst (-1), 1) := by decide +kernel
theorem id_2_56 : decode ic_2 56 = .ok (.invokestatic 30, 3) := by decide +kernel
theorem id_2_59 : decode ic_2 59 = .ok (.return_, 1) := by decide +kernel
def iW_2 (cy : Nat → ClassId) (u : (Nat → Nat) × (Nat → Int32)) : va_W := [(u.1 0, .inr (2, [.int 0, .int 0, .int 0, .ref (u.1 1), .ref (u.1 2), .ref (u.1 3), .ref (u.1 4), .ref (u.1 5), .int 0, .ref (u.1 6)])), (u.1 1, .inl (cy 100, 8, .inl (fun _ => 0))), (u.1 2, .inl (cy 100, 8, .inl (fun _ => 0))), (u.1 3, .inl (cy 100, 8, .inl u.2)), (u.1 4, .inl (cy 100, 4, .inl (fun _ => 0))), (u.1 5, .inl (cy 100, 20, .inl (fun _ => 0))), (u.1 6, .inl (cy 100, 60, .inl (fun _ => 0)))]
abbrev iD_2 (h0 : Nat) : va_W := [(h0, .inr (2, [.int 0, .int 0, .int 0, .null, .null, .null, .null, .null, .int 0, .null]))]
set_option maxHeartbeats 4000000 in
set_option maxRecDepth 100000 in
theorem i_2 (l : Launch) (cy : Nat → ClassId) (D : va_G) (h0 sz : Nat) : Met l iy_2 iw_2 ({ frames := 1, cells := 6, slots := 108, locals := 30 }) (va_Pc [.ref h0] (fun U => U.heap.size = sz ∧ va_P D vwCl (iD_2 h0) U.heap ∧ va_K D vwCl (ztys cy) U ∧ va_D (fun _ => True) (iD_2 h0))) (va_Qv (fun u : (Nat → Nat) × (Nat → Int32) => u.1 0 = h0 ∧ ∀ j, j < 8 → u.2 j = -1) (fun u t => va_P D vwCl (iW_2 cy u) t.heap ∧ va_D (va_A (iD_2 h0) sz) (iW_2 cy u)) (va_A (iD_2 h0) sz)) 6 108 (va_A (iD_2 h0) sz) := by
  refine Met.ofW (cc := ic_2) (maxL := 1) (ret := none) (by decide) rfl ?_
  intro p e s m args below meth c s₁ B hml hv
  obtain ⟨rfl, hsz, hP, hK, hD0⟩ := hv
  have hx := B.exec
  have hb := B.bytes
  have hr := B.returns
  have hts : ∀ w ∈ ztb, w.before ([.ref h0] : List Value).toArray s = true := fun w hw => atoms_spec (ws := iw_2) B.pre w (List.mem_cons_of_mem _ hw)
  have hown : s.vm.findClass "SleeveSlips$Now" = some m.cls := findClass_of_methodNamed B.named
  have hlocks := B.notSynchronized
  have hin : meth.name = "<init>" := (name_of_methodNamed B.named B.method).1
  subst hsz
  have hD := hD0.self (sz := s.heap.size)
  generalize hAe : va_A (iD_2 h0) s.heap.size = A at hD ⊢
  have hA : ∀ q : Nat, s.heap.size ≤ q → A q := fun q h => by rw [← hAe]; exact Or.inr h
  have hS : va_S A s.heap s.heap [] := va_S.rf
  have hl := lv_entry ([.ref h0]) (n := 1) (Nat.le_of_ble_eq_true rfl)
  rw [lg_entry_eq]
  generalize (lg_sl ([.ref h0] : List Value) ++ List.replicate (1 - (lg_sl ([.ref h0] : List Value)).length) Slot.unset).toArray = ls at hl ⊢
  have hl : lv_has ls 1 [(0, .ref h0)] := hl
  refine lv_aload_n hx hb id_2_0 rfl (lv_at hl 0 rfl) ?_
  refine W.objInit hx hb hown (hts _ tm_133) (hts _ tm_23) (hts _ tm_24) rfl (by rw [hml]; exact hl.1) rfl id_2_1 (Nat.le_of_ble_eq_true rfl) (Nat.le_of_ble_eq_true rfl) ?_
  refine W.eq (g2 := F0 m 4 ls []) rfl ?_
  refine lv_aload_n hx hb id_2_4 rfl (lv_at hl 0 rfl) ?_
  refine lv_bipush (v := 8) hx hb id_2_5 (by decide) ?_
  refine zn_int hx hb (hts _ tm_55) hK hP hD hS hA (N := 8) (by decide) (by decide) (by decide) (Nat.le_of_ble_eq_true rfl) (Nat.le_of_ble_eq_true rfl) id_2_7 (fun q1 H hP hD hS => ?_)
  refine W.widen (k := 1) (n := 8) (by decide) (by decide) ?_
  have hP : va_P D vwCl [(h0, .inr (2, [.int 0, .int 0, .int 0, .null, .null, .null, .null, .null, .int 0, .null])), (q1, .inl (cy 100, 8, .inl (fun _ => 0)))] H := hP
  have hD : va_D A [(h0, .inr (2, [.int 0, .int 0, .int 0, .null, .null, .null, .null, .null, .int 0, .null])), (q1, .inl (cy 100, 8, .inl (fun _ => 0)))] := hD
  refine va_putF hx hb hts (ztIn 2 (by decide)) (tY 2) (tTy 2 (by decide)) (tNm 2 (by decide)) hown hK hP hD hS 0 rfl (tCl 2 (by decide)) 3 (by decide) (hts _ tm_143) (fun _ z => z) rfl hin rfl (tTy 2 (by decide) 3 (by decide)) rfl rfl (Nat.le_of_ble_eq_true rfl) id_2_9 (fun H locs hP hD hS => ?_)
  have hP : va_P D vwCl [(h0, .inr (2, [.int 0, .int 0, .int 0, .ref q1, .null, .null, .null, .null, .int 0, .null])), (q1, .inl (cy 100, 8, .inl (fun _ => 0)))] H := hP
  have hD : va_D A [(h0, .inr (2, [.int 0, .int 0, .int 0, .ref q1, .null, .null, .null, .null, .int 0, .null])), (q1, .inl (cy 100, 8, .inl (fun _ => 0)))] := hD
  refine lv_aload_n hx hb id_2_12 rfl (lv_at hl 0 rfl) ?_
  refine lv_bipush (v := 8) hx hb id_2_13 (by decide) ?_
  refine zn_int hx hb (hts _ tm_55) hK hP hD hS hA (N := 8) (by decide) (by decide) (by decide) (Nat.le_of_ble_eq_true rfl) (Nat.le_of_ble_eq_true rfl) id_2_15 (fun q2 H hP hD hS => ?_)
  refine W.widen (k := 2) (n := 16) (by decide) (by decide) ?_
  have hP : va_P D vwCl [(h0, .inr (2, [.int 0, .int 0, .int 0, .ref q1, .null, .null, .null, .null, .int 0, .null])), (q1, .inl (cy 100, 8, .inl (fun _ => 0))), (q2, .inl (cy 100, 8, .inl (fun _ => 0)))] H := hP
  have hD : va_D A [(h0, .inr (2, [.int 0, .int 0, .int 0, .ref q1, .null, .null, .null, .null, .int 0, .null])), (q1, .inl (cy 100, 8, .inl (fun _ => 0))), (q2, .inl (cy 100, 8, .inl (fun _ => 0)))] := hD
  refine va_putF hx hb hts (ztIn 2 (by decide)) (tY 2) (tTy 2 (by decide)) (tNm 2 (by decide)) hown hK hP hD hS 0 rfl (tCl 2 (by decide)) 4 (by decide) (hts _ tm_145) (fun _ z => z) rfl hin rfl (tTy 2 (by decide) 4 (by decide)) rfl rfl (Nat.le_of_ble_eq_true rfl) id_2_17 (fun H locs hP hD hS => ?_)
  have hP : va_P D vwCl [(h0, .inr (2, [.int 0, .int 0, .int 0, .ref q1, .ref q2, .null, .null, .null, .int 0, .null])), (q1, .inl (cy 100, 8, .inl (fun _ => 0))), (q2, .inl (cy 100, 8, .inl (fun _ => 0)))] H := hP
  have hD : va_D A [(h0, .inr (2, [.int 0, .int 0, .int 0, .ref q1, .ref q2, .null, .null, .null, .int 0, .null])), (q1, .inl (cy 100, 8, .inl (fun _ => 0))), (q2, .inl (cy 100, 8, .inl (fun _ => 0)))] := hD
  refine lv_aload_n hx hb id_2_20 rfl (lv_at hl 0 rfl) ?_
  refine lv_bipush (v := 8) hx hb id_2_21 (by decide) ?_
  refine zn_int hx hb (hts _ tm_55) hK hP hD hS hA (N := 8) (by decide) (by decide) (by decide) (Nat.le_of_ble_eq_true rfl) (Nat.le_of_ble_eq_true rfl) id_2_23 (fun q3 H hP hD hS => ?_)
  refine W.widen (k := 3) (n := 24) (by decide) (by decide) ?_
  have hP : va_P D vwCl [(h0, .inr (2, [.int 0, .int 0, .int 0, .ref q1, .ref q2, .null, .null, .null, .int 0, .null])), (q1, .inl (cy 100, 8, .inl (fun _ => 0))), (q2, .inl (cy 100, 8, .inl (fun _ => 0))), (q3, .inl (cy 100, 8, .inl (fun _ => 0)))] H := hP
  have hD : va_D A [(h0, .inr (2, [.int 0, .int 0, .int 0, .ref q1, .ref q2, .null, .null, .null, .int 0, .null])), (q1, .inl (cy 100, 8, .inl (fun _ => 0))), (q2, .inl (cy 100, 8, .inl (fun _ => 0))), (q3, .inl (cy 100, 8, .inl (fun _ => 0)))] := hD
  refine va_putF hx hb hts (ztIn 2 (by decide)) (tY 2) (tTy 2 (by decide)) (tNm 2 (by decide)) hown hK hP hD hS 0 rfl (tCl 2 (by decide)) 5 (by decide) (hts _ tm_147) (fun _ z => z) rfl hin rfl (tTy 2 (by decide) 5 (by decide)) rfl rfl (Nat.le_of_ble_eq_true rfl) id_2_25 (fun H locs hP hD hS => ?_)
  have hP : va_P D vwCl [(h0, .inr (2, [.int 0, .int 0, .int 0, .ref q1, .ref q2, .ref q3, .null, .null, .int 0, .null])), (q1, .inl (cy 100, 8, .inl (fun _ => 0))), (q2, .inl (cy 100, 8, .inl (fun _ => 0))), (q3, .inl (cy 100, 8, .inl (fun _ => 0)))] H := hP
  have hD : va_D A [(h0, .inr (2, [.int 0, .int 0, .int 0, .ref q1, .ref q2, .ref q3, .null, .null, .int 0, .null])), (q1, .inl (cy 100, 8, .inl (fun _ => 0))), (q2, .inl (cy 100, 8, .inl (fun _ => 0))), (q3, .inl (cy 100, 8, .inl (fun _ => 0)))] := hD
  refine lv_aload_n hx hb id_2_28 rfl (lv_at hl 0 rfl) ?_
  refine lv_iconst (v := 4) hx hb id_2_29 (by decide) ?_
  refine zn_int hx hb (hts _ tm_55) hK hP hD hS hA (N := 4) (by decide) (by decide) (by decide) (Nat.le_of_ble_eq_true rfl) (Nat.le_of_ble_eq_true rfl) id_2_30 (fun q4 H hP hD hS => ?_)
  refine W.widen (k := 4) (n := 28) (by decide) (by decide) ?_
  have hP : va_P D vwCl [(h0, .inr (2, [.int 0, .int 0, .int 0, .ref q1, .ref q2, .ref q3, .null, .null, .int 0, .null])), (q1, .inl (cy 100, 8, .inl (fun _ => 0))), (q2, .inl (cy 100, 8, .inl (fun _ => 0))), (q3, .inl (cy 100, 8, .inl (fun _ => 0))), (q4, .inl (cy 100, 4, .inl (fun _ => 0)))] H := hP
  have hD : va_D A [(h0, .inr (2, [.int 0, .int 0, .int 0, .ref q1, .ref q2, .ref q3, .null, .null, .int 0, .null])), (q1, .inl (cy 100, 8, .inl (fun _ => 0))), (q2, .inl (cy 100, 8, .inl (fun _ => 0))), (q3, .inl (cy 100, 8, .inl (fun _ => 0))), (q4, .inl (cy 100, 4, .inl (fun _ => 0)))] := hD
  refine va_putF hx hb hts (ztIn 2 (by decide)) (tY 2) (tTy 2 (by decide)) (tNm 2 (by decide)) hown hK hP hD hS 0 rfl (tCl 2 (by decide)) 6 (by decide) (hts _ tm_149) (fun _ z => z) rfl hin rfl (tTy 2 (by decide) 6 (by decide)) rfl rfl (Nat.le_of_ble_eq_true rfl) id_2_32 (fun H locs hP hD hS => ?_)
  have hP : va_P D vwCl [(h0, .inr (2, [.int 0, .int 0, .int 0, .ref q1, .ref q2, .ref q3, .ref q4, .null, .int 0, .null])), (q1, .inl (cy 100, 8, .inl (fun _ => 0))), (q2, .inl (cy 100, 8, .inl (fun _ => 0))), (q3, .inl (cy 100, 8, .inl (fun _ => 0))), (q4, .inl (cy 100, 4, .inl (fun _ => 0)))] H := hP
  have hD : va_D A [(h0, .inr (2, [.int 0, .int 0, .int 0, .ref q1, .ref q2, .ref q3, .ref q4, .null, .int 0, .null])), (q1, .inl (cy 100, 8, .inl (fun _ => 0))), (q2, .inl (cy 100, 8, .inl (fun _ => 0))), (q3, .inl (cy 100, 8, .inl (fun _ => 0))), (q4, .inl (cy 100, 4, .inl (fun _ => 0)))] := hD
  refine lv_aload_n hx hb id_2_35 rfl (lv_at hl 0 rfl) ?_
  refine lv_bipush (v := 20) hx hb id_2_36 (by decide) ?_
  refine zn_int hx hb (hts _ tm_55) hK hP hD hS hA (N := 20) (by decide) (by decide) (by decide) (Nat.le_of_ble_eq_true rfl) (Nat.le_of_ble_eq_true rfl) id_2_38 (fun q5 H hP hD hS => ?_)
  refine W.widen (k := 5) (n := 48) (by decide) (by decide) ?_
  have hP : va_P D vwCl [(h0, .inr (2, [.int 0, .int 0, .int 0, .ref q1, .ref q2, .ref q3, .ref q4, .null, .int 0, .null])), (q1, .inl (cy 100, 8, .inl (fun _ => 0))), (q2, .inl (cy 100, 8, .inl (fun _ => 0))), (q3, .inl (cy 100, 8, .inl (fun _ => 0))), (q4, .inl (cy 100, 4, .inl (fun _ => 0))), (q5, .inl (cy 100, 20, .inl (fun _ => 0)))] H := hP
  have hD : va_D A [(h0, .inr (2, [.int 0, .int 0, .int 0, .ref q1, .ref q2, .ref q3, .ref q4, .null, .int 0, .null])), (q1, .inl (cy 100, 8, .inl (fun _ => 0))), (q2, .inl (cy 100, 8, .inl (fun _ => 0))), (q3, .inl (cy 100, 8, .inl (fun _ => 0))), (q4, .inl (cy 100, 4, .inl (fun _ => 0))), (q5, .inl (cy 100, 20, .inl (fun _ => 0)))] := hD
  refine va_putF hx hb hts (ztIn 2 (by decide)) (tY 2) (tTy 2 (by decide)) (tNm 2 (by decide)) hown hK hP hD hS 0 rfl (tCl 2 (by decide)) 7 (by decide) (hts _ tm_151) (fun _ z => z) rfl hin rfl (tTy 2 (by decide) 7 (by decide)) rfl rfl (Nat.le_of_ble_eq_true rfl) id_2_40 (fun H locs hP hD hS => ?_)
  have hP : va_P D vwCl [(h0, .inr (2, [.int 0, .int 0, .int 0, .ref q1, .ref q2, .ref q3, .ref q4, .ref q5, .int 0, .null])), (q1, .inl (cy 100, 8, .inl (fun _ => 0))), (q2, .inl (cy 100, 8, .inl (fun _ => 0))), (q3, .inl (cy 100, 8, .inl (fun _ => 0))), (q4, .inl (cy 100, 4, .inl (fun _ => 0))), (q5, .inl (cy 100, 20, .inl (fun _ => 0)))] H := hP
  have hD : va_D A [(h0, .inr (2, [.int 0, .int 0, .int 0, .ref q1, .ref q2, .ref q3, .ref q4, .ref q5, .int 0, .null])), (q1, .inl (cy 100, 8, .inl (fun _ => 0))), (q2, .inl (cy 100, 8, .inl (fun _ => 0))), (q3, .inl (cy 100, 8, .inl (fun _ => 0))), (q4, .inl (cy 100, 4, .inl (fun _ => 0))), (q5, .inl (cy 100, 20, .inl (fun _ => 0)))] := hD
  refine lv_aload_n hx hb id_2_43 rfl (lv_at hl 0 rfl) ?_
  refine lv_bipush (v := 60) hx hb id_2_44 (by decide) ?_
  refine zn_int hx hb (hts _ tm_55) hK hP hD hS hA (N := 60) (by decide) (by decide) (by decide) (Nat.le_of_ble_eq_true rfl) (Nat.le_of_ble_eq_true rfl) id_2_46 (fun q6 H hP hD hS => ?_)
  refine W.widen (k := 6) (n := 108) (by decide) (by decide) ?_
  have hP : va_P D vwCl [(h0, .inr (2, [.int 0, .int 0, .int 0, .ref q1, .ref q2, .ref q3, .ref q4, .ref q5, .int 0, .null])), (q1, .inl (cy 100, 8, .inl (fun _ => 0))), (q2, .inl (cy 100, 8, .inl (fun _ => 0))), (q3, .inl (cy 100, 8, .inl (fun _ => 0))), (q4, .inl (cy 100, 4, .inl (fun _ => 0))), (q5, .inl (cy 100, 20, .inl (fun _ => 0))), (q6, .inl (cy 100, 60, .inl (fun _ => 0)))] H := hP
  have hD : va_D A [(h0, .inr (2, [.int 0, .int 0, .int 0, .ref q1, .ref q2, .ref q3, .ref q4, .ref q5, .int 0, .null])), (q1, .inl (cy 100, 8, .inl (fun _ => 0))), (q2, .inl (cy 100, 8, .inl (fun _ => 0))), (q3, .inl (cy 100, 8, .inl (fun _ => 0))), (q4, .inl (cy 100, 4, .inl (fun _ => 0))), (q5, .inl (cy 100, 20, .inl (fun _ => 0))), (q6, .inl (cy 100, 60, .inl (fun _ => 0)))] := hD
  refine va_putF hx hb hts (ztIn 2 (by decide)) (tY 2) (tTy 2 (by decide)) (tNm 2 (by decide)) hown hK hP hD hS 0 rfl (tCl 2 (by decide)) 9 (by decide) (hts _ tm_154) (fun _ z => z) rfl hin rfl (tTy 2 (by decide) 9 (by decide)) rfl rfl (Nat.le_of_ble_eq_true rfl) id_2_48 (fun H locs hP hD hS => ?_)
  have hP : va_P D vwCl [(h0, .inr (2, [.int 0, .int 0, .int 0, .ref q1, .ref q2, .ref q3, .ref q4, .ref q5, .int 0, .ref q6])), (q1, .inl (cy 100, 8, .inl (fun _ => 0))), (q2, .inl (cy 100, 8, .inl (fun _ => 0))), (q3, .inl (cy 100, 8, .inl (fun _ => 0))), (q4, .inl (cy 100, 4, .inl (fun _ => 0))), (q5, .inl (cy 100, 20, .inl (fun _ => 0))), (q6, .inl (cy 100, 60, .inl (fun _ => 0)))] H := hP
  have hD : va_D A [(h0, .inr (2, [.int 0, .int 0, .int 0, .ref q1, .ref q2, .ref q3, .ref q4, .ref q5, .int 0, .ref q6])), (q1, .inl (cy 100, 8, .inl (fun _ => 0))), (q2, .inl (cy 100, 8, .inl (fun _ => 0))), (q3, .inl (cy 100, 8, .inl (fun _ => 0))), (q4, .inl (cy 100, 4, .inl (fun _ => 0))), (q5, .inl (cy 100, 20, .inl (fun _ => 0))), (q6, .inl (cy 100, 60, .inl (fun _ => 0)))] := hD
  refine lv_aload_n hx hb id_2_51 rfl (lv_at hl 0 rfl) ?_
  refine va_get (v := .ref q3) hx hb hts (ztIn 2 (by decide)) hown hK hP 0 rfl (tCl 2 (by decide)) 5 (by decide) (hts _ tm_147) (fun _ z => z) rfl id_2_52 ?_
  refine lv_iconst (v := (-1)) hx hb id_2_55 (by decide) ?_
  have hPc := hP.sub (ws' := [(q3, .inl (cy 100, 8, .inl (fun _ => 0)))]) [3] rfl
  have hDc := hD.sub (ws' := [(q3, .inl (cy 100, 8, .inl (fun _ => 0)))]) [3] (by decide) rfl
  have hFc := va_free (wc := [(q3, .inl (cy 100, 8, .inl (fun _ => 0)))]) hD hS hA [3] rfl
  refine va_callv (va_runS (As := [.ref q3, .int (-1)]) (rest := []) ⟨hx, hb, hml, hown, hts⟩ (i_fill l cy D q3 H.size 8 (-1) (by decide)) (va_cwS 2 hts (zgood_in (fun w hw => by
    unfold va_wsS at hw
    rcases List.mem_append.mp hw with hw | hw
    · simp only [List.mem_cons, List.not_mem_nil, or_false] at hw
      rcases hw with rfl | rfl | rfl
      · exact tm_134
      · exact tm_135
      · exact tm_5
    · exact ii_fill w hw)) rfl rfl rfl (by decide +kernel) ⟨Nat.le_of_ble_eq_true rfl, Nat.le_of_ble_eq_true rfl⟩) ⟨fun a U g mk q => by obtain ⟨q0, q1, qP, qK, qD⟩ := q; exact ⟨q0, q1, qP, va_K.moved (u := U) (U := U.calling g mk a) (Vm.Alike.refl U.vm) qK, qD⟩, fun U hU hW => ⟨rfl, by rw [hU], by rw [hU]; exact hPc, va_K.moved hW.alike hK, hDc.weaken (fun _ _ _ _ => trivial)⟩⟩ rfl rfl hl.1 rfl (lv_room (Nat.le_of_ble_eq_true rfl)) id_2_56 ⟨Nat.le_of_ble_eq_true rfl, Nat.le_of_ble_eq_true rfl⟩) hS (fun q _ h => hFc q h) hFc (fun f t H1 locs ht hvm hw hB hz1 hk1 hS => ?_)
  obtain ⟨hP1, hD1⟩ := hB
  rw [ht] at hP1
  obtain ⟨hP, hD⟩ := va_join (wr := [(h0, .inr (2, [.int 0, .int 0, .int 0, .ref q1, .ref q2, .ref q3, .ref q4, .ref q5, .int 0, .ref q6])), (q1, .inl (cy 100, 8, .inl (fun _ => 0))), (q2, .inl (cy 100, 8, .inl (fun _ => 0))), (q4, .inl (cy 100, 4, .inl (fun _ => 0))), (q5, .inl (cy 100, 20, .inl (fun _ => 0))), (q6, .inl (cy 100, 60, .inl (fun _ => 0)))]) (w1 := [(q3, .inl (cy 100, 8, .inl f))]) hP hD [3] [0, 1, 2, 4, 5, 6] rfl rfl (by decide) (by decide) hk1 hFc hP1 hD1
  generalize H1 = H at hP hS ⊢
  have hP := hP.sub (ws' := [(h0, .inr (2, [.int 0, .int 0, .int 0, .ref q1, .ref q2, .ref q3, .ref q4, .ref q5, .int 0, .ref q6])), (q1, .inl (cy 100, 8, .inl (fun _ => 0))), (q2, .inl (cy 100, 8, .inl (fun _ => 0))), (q3, .inl (cy 100, 8, .inl f)), (q4, .inl (cy 100, 4, .inl (fun _ => 0))), (q5, .inl (cy 100, 20, .inl (fun _ => 0))), (q6, .inl (cy 100, 60, .inl (fun _ => 0)))]) [0, 1, 2, 6, 3, 4, 5] rfl
  have hD := hD.sub (ws' := [(h0, .inr (2, [.int 0, .int 0, .int 0, .ref q1, .ref q2, .ref q3, .ref q4, .ref q5, .int 0, .ref q6])), (q1, .inl (cy 100, 8, .inl (fun _ => 0))), (q2, .inl (cy 100, 8, .inl (fun _ => 0))), (q3, .inl (cy 100, 8, .inl f)), (q4, .inl (cy 100, 4, .inl (fun _ => 0))), (q5, .inl (cy 100, 20, .inl (fun _ => 0))), (q6, .inl (cy 100, 60, .inl (fun _ => 0)))]) [0, 1, 2, 6, 3, 4, 5] (by decide) rfl
  exact W.vret hx hb hr (fun t ht hW => ⟨⟨(fun j => [h0, q1, q2, q3, q4, q5, q6].getD j 0, f), rfl, ⟨rfl, hw⟩, by rw [ht]; exact hP, hD⟩, hS.F ht⟩) hS.2.2 id_2_59
abbrev ic_7 : ByteArray := prog_9_method_1_code
def iy_7 : MethodName := ⟨"SleeveSlipsModel", "<init>", "()V"⟩
def iw_7 : List Cond := Cond.code iy_7 ic_7 1 none :: ztb
theorem ii_7 : ∀ w ∈ iw_7, w ∈ ztb := fun w hw => by
  rcases List.mem_cons.mp hw with rfl | hw
  · exact tm_719
  · exact hw
theorem id_7_0 : decode ic_7 0 = .ok (.aload_n 0, 1) := by decide +kernel
theorem id_7_1 : decode ic_7 1 = .ok (.invokespecial 1, 3) := by decide +kernel
theorem id_7_4 : decode ic_7 4 = .ok (.aload_n 0, 1) := by decide +kernel
theorem id_7_5 : decode ic_7 5 = .ok (.sipush 300, 3) := by decide +kernel
theorem id_7_8 : decode ic_7 8 = .ok (.newarray .int, 2) := by decide +kernel
theorem id_7_10 : decode ic_7 10 = .ok (.putfield 7, 3) := by decide +kernel
theorem id_7_13 : decode ic_7 13 = .ok (.aload_n 0, 1) := by decide +kernel
theorem id_7_14 : decode ic_7 14 = .ok (.iconst 2, 1) := by decide +kernel
theorem id_7_15 : decode ic_7 15 = .ok (.newarray .boolean, 2) := by decide +kernel
theorem id_7_17 : decode ic_7 17 = .ok (.putfield 13, 3) := by decide +kernel
theorem id_7_20 : decode ic_7 20 = .ok (.aload_n 0, 1) := by decide +kernel
theorem id_7_21 : decode ic_7 21 = .ok (.iconst 4, 1) := by decide +kernel
theorem id_7_22 : decode ic_7 22 = .ok (.newarray .int, 2) := by decide +kernel
theorem id_7_24 : decode ic_7 24 = .ok (.putfield 17, 3) := by decide +kernel
theorem id_7_27 : decode ic_7 27 = .ok (.aload_n 0, 1) := by decide +kernel
theorem id_7_28 : decode ic_7 28 = .ok (.iconst 4, 1) := by decide +kernel
theorem id_7_29 : decode ic_7 29 = .ok (.newarray .int, 2) := by decide +kernel
theorem id_7_31 : decode ic_7 31 = .ok (.putfield 20, 3) := by decide +kernel
theorem id_7_34 : decode ic_7 34 = .ok (.aload_n 0, 1) := by decide +kernel
theorem id_7_35 : decode ic_7 35 = .ok (.iconst 4, 1) := by decide +kernel
theorem id_7_36 : decode ic_7 36 = .ok (.newarray .int, 2) := by decide +kernel
theorem id_7_38 : decode ic_7 38 = .ok (.putfield 23, 3) := by decide +kernel
theorem id_7_41 : decode ic_7 41 = .ok (.aload_n 0, 1) := by decide +kernel
theorem id_7_42 : decode ic_7 42 = .ok (.bipush 40, 2) := by decide +kernel
theorem id_7_44 : decode ic_7 44 = .ok (.newarray .int, 2) := by decide +kernel
theorem id_7_46 : decode ic_7 46 = .ok (.putfield 26, 3) := by decide +kernel
theorem id_7_49 : decode ic_7 49 = .ok (.aload_n 0, 1) := by decide +kernel
theorem id_7_50 : decode ic_7 50 = .ok (.bipush 16, 2) := by decide +kernel
theorem id_7_52 : decode ic_7 52 = .ok (.newarray .int, 2) := by decide +kernel
theorem id_7_54 : decode ic_7 54 = .ok (.putfield 29, 3) := by decide +kernel
theorem id_7_57 : decode ic_7 57 = .ok (.aload_n 0, 1) := by decide +kernel
theorem id_7_58 : decode ic_7 58 = .ok (.iconst 3, 1) := by decide +kernel
theorem id_7_59 : decode ic_7 59 = .ok (.newarray .int, 2) := by decide +kernel
theorem id_7_61 : decode ic_7 61 = .ok (.putfield 32, 3) := by decide +kernel
theorem id_7_64 : decode ic_7 64 = .ok (.aload_n 0, 1) := by decide +kernel
theorem id_7_65 : decode ic_7 65 = .ok (.iconst 3, 1) := by decide +kernel
theorem id_7_66 : decode ic_7 66 = .ok (.newarray .int, 2) := by decide +kernel
theorem id_7_68 : decode ic_7 68 = .ok (.putfield 35, 3) := by decide +kernel
theorem id_7_71 : decode ic_7 71 = .ok (.aload_n 0, 1) := by decide +kernel
theorem id_7_72 : decode ic_7 72 = .ok (.iconst 3, 1) := by decide +kernel
theorem id_7_73 : decode ic_7 73 = .ok (.newarray .int, 2) := by decide +kernel
theorem id_7_75 : decode ic_7 75 = .ok (.putfield 38, 3) := by decide +kernel
theorem id_7_78 : decode ic_7 78 = .ok (.aload_n 0, 1) := by decide +kernel
theorem id_7_79 : decode ic_7 79 = .ok (.sipush 300, 3) := by decide +kernel
theorem id_7_82 : decode ic_7 82 = .ok (.newarray .int, 2) := by decide +kernel
theorem id_7_84 : decode ic_7 84 = .ok (.putfield 41, 3) := by decide +kernel
theorem id_7_87 : decode ic_7 87 = .ok (.aload_n 0, 1) := by decide +kernel
theorem id_7_88 : decode ic_7 88 = .ok (.bipush 12, 2) := by decide +kernel
theorem id_7_90 : decode ic_7 90 = .ok (.newarray .int, 2) := by decide +kernel
theorem id_7_92 : decode ic_7 92 = .ok (.putfield 44, 3) := by decide +kernel
theorem id_7_95 : decode ic_7 95 = .ok (.aload_n 0, 1) := by decide +kernel
theorem id_7_96 : decode ic_7 96 = .ok (.bipush 40, 2) := by decide +kernel
theorem id_7_98 : decode ic_7 98 = .ok (.newarray .int, 2) := by decide +kernel
theorem id_7_100 : decode ic_7 100 = .ok (.putfield 47, 3) := by decide +kernel
theorem id_7_103 : decode ic_7 103 = .ok (.aload_n 0, 1) := by decide +kernel
theorem id_7_104 : decode ic_7 104 = .ok (.bipush 16, 2) := by decide +kernel
theorem id_7_106 : decode ic_7 106 = .ok (.newarray .int, 2) := by decide +kernel
theorem id_7_108 : decode ic_7 108 = .ok (.putfield 50, 3) := by decide +kernel
theorem id_7_111 : decode ic_7 111 = .ok (.aload_n 0, 1) := by decide +kernel
theorem id_7_112 : decode ic_7 112 = .ok (.bipush 8, 2) := by decide +kernel
theorem id_7_114 : decode ic_7 114 = .ok (.newarray .int, 2) := by decide +kernel
theorem id_7_116 : decode ic_7 116 = .ok (.putfield 53, 3) := by decide +kernel
theorem id_7_119 : decode ic_7 119 = .ok (.aload_n 0, 1) := by decide +kernel
theorem id_7_120 : decode ic_7 120 = .ok (.bipush 12, 2) := by decide +kernel
theorem id_7_122 : decode ic_7 122 = .ok (.newarray .long, 2) := by decide +kernel
theorem id_7_124 : decode ic_7 124 = .ok (.putfield 56, 3) := by decide +kernel
theorem id_7_127 : decode ic_7 127 = .ok (.aload_n 0, 1) := by decide +kernel
theorem id_7_128 : decode ic_7 128 = .ok (.bipush 12, 2) := by decide +kernel
theorem id_7_130 : decode ic_7 130 = .ok (.newarray .long, 2) := by decide +kernel
theorem id_7_132 : decode ic_7 132 = .ok (.putfield 60, 3) := by decide +kernel
theorem id_7_135 : decode ic_7 135 = .ok (.return_, 1) := by decide +kernel
def iW_7 (cy : Nat → ClassId) (u : (Nat → Nat) × (Nat → Int32)) : va_W := [(u.1 0, .inr (7, [.ref (u.1 1), .ref (u.1 2), .int 0, .ref (u.1 3), .ref (u.1 4), .ref (u.1 5), .int 0, .ref (u.1 6), .int 0, .ref (u.1 7), .ref (u.1 8), .ref (u.1 9), .ref (u.1 10), .int 0, .ref (u.1 11), .int 0, .long 0, .int 0, .int 0, .int 0, .ref (u.1 12), .int 0, .ref (u.1 13), .int 0, .ref (u.1 14), .ref (u.1 15), .ref (u.1 16), .ref (u.1 17)])), (u.1 1, .inl (cy 100, 300, .inl (fun _ => 0))), (u.1 2, .inl (cy 102, 2, .inl (fun _ => 0))), (u.1 3, .inl (cy 100, 4, .inl (fun _ => 0))), (u.1 4, .inl (cy 100, 4, .inl (fun _ => 0))), (u.1 5, .inl (cy 100, 4, .inl (fun _ => 0))), (u.1 6, .inl (cy 100, 40, .inl (fun _ => 0))), (u.1 7, .inl (cy 100, 16, .inl (fun _ => 0))), (u.1 8, .inl (cy 100, 3, .inl (fun _ => 0))), (u.1 9, .inl (cy 100, 3, .inl (fun _ => 0))), (u.1 10, .inl (cy 100, 3, .inl (fun _ => 0))), (u.1 11, .inl (cy 100, 300, .inl (fun _ => 0))), (u.1 12, .inl (cy 100, 12, .inl (fun _ => 0))), (u.1 13, .inl (cy 100, 40, .inl (fun _ => 0))), (u.1 14, .inl (cy 100, 16, .inl (fun _ => 0))), (u.1 15, .inl (cy 100, 8, .inl (fun _ => 0))), (u.1 16, .inl (cy 103, 12, .inr (.inl (fun _ => 0)))), (u.1 17, .inl (cy 103, 12, .inr (.inl (fun _ => 0))))]
abbrev iD_7 (h0 : Nat) : va_W := [(h0, .inr (7, [.null, .null, .int 0, .null, .null, .null, .int 0, .null, .int 0, .null, .null, .null, .null, .int 0, .null, .int 0, .long 0, .int 0, .int 0, .int 0, .null, .int 0, .null, .int 0, .null, .null, .null, .null]))]
set_option maxHeartbeats 4000000 in
set_option maxRecDepth 100000 in
theorem i_7 (l : Launch) (cy : Nat → ClassId) (D : va_G) (h0 sz : Nat) : Met l iy_7 iw_7 ({ frames := 1, cells := 17, slots := 779, locals := 12 }) (va_Pc [.ref h0] (fun U => U.heap.size = sz ∧ va_P D vwCl (iD_7 h0) U.heap ∧ va_K D vwCl (ztys cy) U ∧ va_D (fun _ => True) (iD_7 h0))) (va_Qv (fun u : (Nat → Nat) × (Nat → Int32) => u.1 0 = h0 ∧ ∀ j, j < 8 → u.2 j = -1) (fun u t => va_P D vwCl (iW_7 cy u) t.heap ∧ va_D (va_A (iD_7 h0) sz) (iW_7 cy u)) (va_A (iD_7 h0) sz)) 17 779 (va_A (iD_7 h0) sz) := by
  refine Met.ofW (cc := ic_7) (maxL := 1) (ret := none) (by decide) rfl ?_
  intro p e s m args below meth c s₁ B hml hv
  obtain ⟨rfl, hsz, hP, hK, hD0⟩ := hv
  have hx := B.exec
  have hb := B.bytes
  have hr := B.returns
  have hts : ∀ w ∈ ztb, w.before ([.ref h0] : List Value).toArray s = true := fun w hw => atoms_spec (ws := iw_7) B.pre w (List.mem_cons_of_mem _ hw)
  have hown : s.vm.findClass "SleeveSlipsModel" = some m.cls := findClass_of_methodNamed B.named
  have hlocks := B.notSynchronized
  have hin : meth.name = "<init>" := (name_of_methodNamed B.named B.method).1
  subst hsz
  have hD := hD0.self (sz := s.heap.size)
  generalize hAe : va_A (iD_7 h0) s.heap.size = A at hD ⊢
  have hA : ∀ q : Nat, s.heap.size ≤ q → A q := fun q h => by rw [← hAe]; exact Or.inr h
  have hS : va_S A s.heap s.heap [] := va_S.rf
  have hl := lv_entry ([.ref h0]) (n := 1) (Nat.le_of_ble_eq_true rfl)
  rw [lg_entry_eq]
  generalize (lg_sl ([.ref h0] : List Value) ++ List.replicate (1 - (lg_sl ([.ref h0] : List Value)).length) Slot.unset).toArray = ls at hl ⊢
  have hl : lv_has ls 1 [(0, .ref h0)] := hl
  refine lv_aload_n hx hb id_7_0 rfl (lv_at hl 0 rfl) ?_
  refine W.objInit hx hb hown (hts _ tm_720) (hts _ tm_23) (hts _ tm_24) rfl (by rw [hml]; exact hl.1) rfl id_7_1 (Nat.le_of_ble_eq_true rfl) (Nat.le_of_ble_eq_true rfl) ?_
  refine W.eq (g2 := F0 m 4 ls []) rfl ?_
  refine lv_aload_n hx hb id_7_4 rfl (lv_at hl 0 rfl) ?_
  refine lv_sipush (v := 300) hx hb id_7_5 (by decide) ?_
  refine zn_int hx hb (hts _ tm_55) hK hP hD hS hA (N := 300) (by decide) (by decide) (by decide) (Nat.le_of_ble_eq_true rfl) (Nat.le_of_ble_eq_true rfl) id_7_8 (fun q1 H hP hD hS => ?_)
  refine W.widen (k := 1) (n := 300) (by decide) (by decide) ?_
  have hP : va_P D vwCl [(h0, .inr (7, [.null, .null, .int 0, .null, .null, .null, .int 0, .null, .int 0, .null, .null, .null, .null, .int 0, .null, .int 0, .long 0, .int 0, .int 0, .int 0, .null, .int 0, .null, .int 0, .null, .null, .null, .null])), (q1, .inl (cy 100, 300, .inl (fun _ => 0)))] H := hP
  have hD : va_D A [(h0, .inr (7, [.null, .null, .int 0, .null, .null, .null, .int 0, .null, .int 0, .null, .null, .null, .null, .int 0, .null, .int 0, .long 0, .int 0, .int 0, .int 0, .null, .int 0, .null, .int 0, .null, .null, .null, .null])), (q1, .inl (cy 100, 300, .inl (fun _ => 0)))] := hD
  refine va_putF hx hb hts (ztIn 7 (by decide)) (tY 7) (tTy 7 (by decide)) (tNm 7 (by decide)) hown hK hP hD hS 0 rfl (tCl 7 (by decide)) 0 (by decide) (hts _ tm_721) (fun _ z => z) rfl hin rfl (tTy 7 (by decide) 0 (by decide)) rfl rfl (Nat.le_of_ble_eq_true rfl) id_7_10 (fun H locs hP hD hS => ?_)
  have hP : va_P D vwCl [(h0, .inr (7, [.ref q1, .null, .int 0, .null, .null, .null, .int 0, .null, .int 0, .null, .null, .null, .null, .int 0, .null, .int 0, .long 0, .int 0, .int 0, .int 0, .null, .int 0, .null, .int 0, .null, .null, .null, .null])), (q1, .inl (cy 100, 300, .inl (fun _ => 0)))] H := hP
  have hD : va_D A [(h0, .inr (7, [.ref q1, .null, .int 0, .null, .null, .null, .int 0, .null, .int 0, .null, .null, .null, .null, .int 0, .null, .int 0, .long 0, .int 0, .int 0, .int 0, .null, .int 0, .null, .int 0, .null, .null, .null, .null])), (q1, .inl (cy 100, 300, .inl (fun _ => 0)))] := hD
  refine lv_aload_n hx hb id_7_13 rfl (lv_at hl 0 rfl) ?_
  refine lv_iconst (v := 2) hx hb id_7_14 (by decide) ?_
  refine zn_boolean hx hb (hts _ tm_211) hK hP hD hS hA (N := 2) (by decide) (by decide) (by decide) (Nat.le_of_ble_eq_true rfl) (Nat.le_of_ble_eq_true rfl) id_7_15 (fun q2 H hP hD hS => ?_)
  refine W.widen (k := 2) (n := 302) (by decide) (by decide) ?_
  have hP : va_P D vwCl [(h0, .inr (7, [.ref q1, .null, .int 0, .null, .null, .null, .int 0, .null, .int 0, .null, .null, .null, .null, .int 0, .null, .int 0, .long 0, .int 0, .int 0, .int 0, .null, .int 0, .null, .int 0, .null, .null, .null, .null])), (q1, .inl (cy 100, 300, .inl (fun _ => 0))), (q2, .inl (cy 102, 2, .inl (fun _ => 0)))] H := hP
  have hD : va_D A [(h0, .inr (7, [.ref q1, .null, .int 0, .null, .null, .null, .int 0, .null, .int 0, .null, .null, .null, .null, .int 0, .null, .int 0, .long 0, .int 0, .int 0, .int 0, .null, .int 0, .null, .int 0, .null, .null, .null, .null])), (q1, .inl (cy 100, 300, .inl (fun _ => 0))), (q2, .inl (cy 102, 2, .inl (fun _ => 0)))] := hD
  refine va_putF hx hb hts (ztIn 7 (by decide)) (tY 7) (tTy 7 (by decide)) (tNm 7 (by decide)) hown hK hP hD hS 0 rfl (tCl 7 (by decide)) 1 (by decide) (hts _ tm_722) (fun _ z => z) rfl hin rfl (tTy 7 (by decide) 1 (by decide)) rfl rfl (Nat.le_of_ble_eq_true rfl) id_7_17 (fun H locs hP hD hS => ?_)
  have hP : va_P D vwCl [(h0, .inr (7, [.ref q1, .ref q2, .int 0, .null, .null, .null, .int 0, .null, .int 0, .null, .null, .null, .null, .int 0, .null, .int 0, .long 0, .int 0, .int 0, .int 0, .null, .int 0, .null, .int 0, .null, .null, .null, .null])), (q1, .inl (cy 100, 300, .inl (fun _ => 0))), (q2, .inl (cy 102, 2, .inl (fun _ => 0)))] H := hP
  have hD : va_D A [(h0, .inr (7, [.ref q1, .ref q2, .int 0, .null, .null, .null, .int 0, .null, .int 0, .null, .null, .null, .null, .int 0, .null, .int 0, .long 0, .int 0, .int 0, .int 0, .null, .int 0, .null, .int 0, .null, .null, .null, .null])), (q1, .inl (cy 100, 300, .inl (fun _ => 0))), (q2, .inl (cy 102, 2, .inl (fun _ => 0)))] := hD
  refine lv_aload_n hx hb id_7_20 rfl (lv_at hl 0 rfl) ?_
  refine lv_iconst (v := 4) hx hb id_7_21 (by decide) ?_
  refine zn_int hx hb (hts _ tm_55) hK hP hD hS hA (N := 4) (by decide) (by decide) (by decide) (Nat.le_of_ble_eq_true rfl) (Nat.le_of_ble_eq_true rfl) id_7_22 (fun q3 H hP hD hS => ?_)
  refine W.widen (k := 3) (n := 306) (by decide) (by decide) ?_
  have hP : va_P D vwCl [(h0, .inr (7, [.ref q1, .ref q2, .int 0, .null, .null, .null, .int 0, .null, .int 0, .null, .null, .null, .null, .int 0, .null, .int 0, .long 0, .int 0, .int 0, .int 0, .null, .int 0, .null, .int 0, .null, .null, .null, .null])), (q1, .inl (cy 100, 300, .inl (fun _ => 0))), (q2, .inl (cy 102, 2, .inl (fun _ => 0))), (q3, .inl (cy 100, 4, .inl (fun _ => 0)))] H := hP
  have hD : va_D A [(h0, .inr (7, [.ref q1, .ref q2, .int 0, .null, .null, .null, .int 0, .null, .int 0, .null, .null, .null, .null, .int 0, .null, .int 0, .long 0, .int 0, .int 0, .int 0, .null, .int 0, .null, .int 0, .null, .null, .null, .null])), (q1, .inl (cy 100, 300, .inl (fun _ => 0))), (q2, .inl (cy 102, 2, .inl (fun _ => 0))), (q3, .inl (cy 100, 4, .inl (fun _ => 0)))] := hD
  refine va_putF hx hb hts (ztIn 7 (by decide)) (tY 7) (tTy 7 (by decide)) (tNm 7 (by decide)) hown hK hP hD hS 0 rfl (tCl 7 (by decide)) 3 (by decide) (hts _ tm_724) (fun _ z => z) rfl hin rfl (tTy 7 (by decide) 3 (by decide)) rfl rfl (Nat.le_of_ble_eq_true rfl) id_7_24 (fun H locs hP hD hS => ?_)
  have hP : va_P D vwCl [(h0, .inr (7, [.ref q1, .ref q2, .int 0, .ref q3, .null, .null, .int 0, .null, .int 0, .null, .null, .null, .null, .int 0, .null, .int 0, .long 0, .int 0, .int 0, .int 0, .null, .int 0, .null, .int 0, .null, .null, .null, .null])), (q1, .inl (cy 100, 300, .inl (fun _ => 0))), (q2, .inl (cy 102, 2, .inl (fun _ => 0))), (q3, .inl (cy 100, 4, .inl (fun _ => 0)))] H := hP
  have hD : va_D A [(h0, .inr (7, [.ref q1, .ref q2, .int 0, .ref q3, .null, .null, .int 0, .null, .int 0, .null, .null, .null, .null, .int 0, .null, .int 0, .long 0, .int 0, .int 0, .int 0, .null, .int 0, .null, .int 0, .null, .null, .null, .null])), (q1, .inl (cy 100, 300, .inl (fun _ => 0))), (q2, .inl (cy 102, 2, .inl (fun _ => 0))), (q3, .inl (cy 100, 4, .inl (fun _ => 0)))] := hD
  refine lv_aload_n hx hb id_7_27 rfl (lv_at hl 0 rfl) ?_
  refine lv_iconst (v := 4) hx hb id_7_28 (by decide) ?_
  refine zn_int hx hb (hts _ tm_55) hK hP hD hS hA (N := 4) (by decide) (by decide) (by decide) (Nat.le_of_ble_eq_true rfl) (Nat.le_of_ble_eq_true rfl) id_7_29 (fun q4 H hP hD hS => ?_)
  refine W.widen (k := 4) (n := 310) (by decide) (by decide) ?_
  have hP : va_P D vwCl [(h0, .inr (7, [.ref q1, .ref q2, .int 0, .ref q3, .null, .null, .int 0, .null, .int 0, .null, .null, .null, .null, .int 0, .null, .int 0, .long 0, .int 0, .int 0, .int 0, .null, .int 0, .null, .int 0, .null, .null, .null, .null])), (q1, .inl (cy 100, 300, .inl (fun _ => 0))), (q2, .inl (cy 102, 2, .inl (fun _ => 0))), (q3, .inl (cy 100, 4, .inl (fun _ => 0))), (q4, .inl (cy 100, 4, .inl (fun _ => 0)))] H := hP
  have hD : va_D A [(h0, .inr (7, [.ref q1, .ref q2, .int 0, .ref q3, .null, .null, .int 0, .null, .int 0, .null, .null, .null, .null, .int 0, .null, .int 0, .long 0, .int 0, .int 0, .int 0, .null, .int 0, .null, .int 0, .null, .null, .null, .null])), (q1, .inl (cy 100, 300, .inl (fun _ => 0))), (q2, .inl (cy 102, 2, .inl (fun _ => 0))), (q3, .inl (cy 100, 4, .inl (fun _ => 0))), (q4, .inl (cy 100, 4, .inl (fun _ => 0)))] := hD
  refine va_putF hx hb hts (ztIn 7 (by decide)) (tY 7) (tTy 7 (by decide)) (tNm 7 (by decide)) hown hK hP hD hS 0 rfl (tCl 7 (by decide)) 4 (by decide) (hts _ tm_725) (fun _ z => z) rfl hin rfl (tTy 7 (by decide) 4 (by decide)) rfl rfl (Nat.le_of_ble_eq_true rfl) id_7_31 (fun H locs hP hD hS => ?_)
  have hP : va_P D vwCl [(h0, .inr (7, [.ref q1, .ref q2, .int 0, .ref q3, .ref q4, .null, .int 0, .null, .int 0, .null, .null, .null, .null, .int 0, .null, .int 0, .long 0, .int 0, .int 0, .int 0, .null, .int 0, .null, .int 0, .null, .null, .null, .null])), (q1, .inl (cy 100, 300, .inl (fun _ => 0))), (q2, .inl (cy 102, 2, .inl (fun _ => 0))), (q3, .inl (cy 100, 4, .inl (fun _ => 0))), (q4, .inl (cy 100, 4, .inl (fun _ => 0)))] H := hP
  have hD : va_D A [(h0, .inr (7, [.ref q1, .ref q2, .int 0, .ref q3, .ref q4, .null, .int 0, .null, .int 0, .null, .null, .null, .null, .int 0, .null, .int 0, .long 0, .int 0, .int 0, .int 0, .null, .int 0, .null, .int 0, .null, .null, .null, .null])), (q1, .inl (cy 100, 300, .inl (fun _ => 0))), (q2, .inl (cy 102, 2, .inl (fun _ => 0))), (q3, .inl (cy 100, 4, .inl (fun _ => 0))), (q4, .inl (cy 100, 4, .inl (fun _ => 0)))] := hD
  refine lv_aload_n hx hb id_7_34 rfl (lv_at hl 0 rfl) ?_
  refine lv_iconst (v := 4) hx hb id_7_35 (by decide) ?_
  refine zn_int hx hb (hts _ tm_55) hK hP hD hS hA (N := 4) (by decide) (by decide) (by decide) (Nat.le_of_ble_eq_true rfl) (Nat.le_of_ble_eq_true rfl) id_7_36 (fun q5 H hP hD hS => ?_)
  refine W.widen (k := 5) (n := 314) (by decide) (by decide) ?_
  have hP : va_P D vwCl [(h0, .inr (7, [.ref q1, .ref q2, .int 0, .ref q3, .ref q4, .null, .int 0, .null, .int 0, .null, .null, .null, .null, .int 0, .null, .int 0, .long 0, .int 0, .int 0, .int 0, .null, .int 0, .null, .int 0, .null, .null, .null, .null])), (q1, .inl (cy 100, 300, .inl (fun _ => 0))), (q2, .inl (cy 102, 2, .inl (fun _ => 0))), (q3, .inl (cy 100, 4, .inl (fun _ => 0))), (q4, .inl (cy 100, 4, .inl (fun _ => 0))), (q5, .inl (cy 100, 4, .inl (fun _ => 0)))] H := hP
  have hD : va_D A [(h0, .inr (7, [.ref q1, .ref q2, .int 0, .ref q3, .ref q4, .null, .int 0, .null, .int 0, .null, .null, .null, .null, .int 0, .null, .int 0, .long 0, .int 0, .int 0, .int 0, .null, .int 0, .null, .int 0, .null, .null, .null, .null])), (q1, .inl (cy 100, 300, .inl (fun _ => 0))), (q2, .inl (cy 102, 2, .inl (fun _ => 0))), (q3, .inl (cy 100, 4, .inl (fun _ => 0))), (q4, .inl (cy 100, 4, .inl (fun _ => 0))), (q5, .inl (cy 100, 4, .inl (fun _ => 0)))] := hD
  refine va_putF hx hb hts (ztIn 7 (by decide)) (tY 7) (tTy 7 (by decide)) (tNm 7 (by decide)) hown hK hP hD hS 0 rfl (tCl 7 (by decide)) 5 (by decide) (hts _ tm_726) (fun _ z => z) rfl hin rfl (tTy 7 (by decide) 5 (by decide)) rfl rfl (Nat.le_of_ble_eq_true rfl) id_7_38 (fun H locs hP hD hS => ?_)
  have hP : va_P D vwCl [(h0, .inr (7, [.ref q1, .ref q2, .int 0, .ref q3, .ref q4, .ref q5, .int 0, .null, .int 0, .null, .null, .null, .null, .int 0, .null, .int 0, .long 0, .int 0, .int 0, .int 0, .null, .int 0, .null, .int 0, .null, .null, .null, .null])), (q1, .inl (cy 100, 300, .inl (fun _ => 0))), (q2, .inl (cy 102, 2, .inl (fun _ => 0))), (q3, .inl (cy 100, 4, .inl (fun _ => 0))), (q4, .inl (cy 100, 4, .inl (fun _ => 0))), (q5, .inl (cy 100, 4, .inl (fun _ => 0)))] H := hP
  have hD : va_D A [(h0, .inr (7, [.ref q1, .ref q2, .int 0, .ref q3, .ref q4, .ref q5, .int 0, .null, .int 0, .null, .null, .null, .null, .int 0, .null, .int 0, .long 0, .int 0, .int 0, .int 0, .null, .int 0, .null, .int 0, .null, .null, .null, .null])), (q1, .inl (cy 100, 300, .inl (fun _ => 0))), (q2, .inl (cy 102, 2, .inl (fun _ => 0))), (q3, .inl (cy 100, 4, .inl (fun _ => 0))), (q4, .inl (cy 100, 4, .inl (fun _ => 0))), (q5, .inl (cy 100, 4, .inl (fun _ => 0)))] := hD
  refine lv_aload_n hx hb id_7_41 rfl (lv_at hl 0 rfl) ?_
  refine lv_bipush (v := 40) hx hb id_7_42 (by decide) ?_
  refine zn_int hx hb (hts _ tm_55) hK hP hD hS hA (N := 40) (by decide) (by decide) (by decide) (Nat.le_of_ble_eq_true rfl) (Nat.le_of_ble_eq_true rfl) id_7_44 (fun q6 H hP hD hS => ?_)
  refine W.widen (k := 6) (n := 354) (by decide) (by decide) ?_
  have hP : va_P D vwCl [(h0, .inr (7, [.ref q1, .ref q2, .int 0, .ref q3, .ref q4, .ref q5, .int 0, .null, .int 0, .null, .null, .null, .null, .int 0, .null, .int 0, .long 0, .int 0, .int 0, .int 0, .null, .int 0, .null, .int 0, .null, .null, .null, .null])), (q1, .inl (cy 100, 300, .inl (fun _ => 0))), (q2, .inl (cy 102, 2, .inl (fun _ => 0))), (q3, .inl (cy 100, 4, .inl (fun _ => 0))), (q4, .inl (cy 100, 4, .inl (fun _ => 0))), (q5, .inl (cy 100, 4, .inl (fun _ => 0))), (q6, .inl (cy 100, 40, .inl (fun _ => 0)))] H := hP
  have hD : va_D A [(h0, .inr (7, [.ref q1, .ref q2, .int 0, .ref q3, .ref q4, .ref q5, .int 0, .null, .int 0, .null, .null, .null, .null, .int 0, .null, .int 0, .long 0, .int 0, .int 0, .int 0, .null, .int 0, .null, .int 0, .null, .null, .null, .null])), (q1, .inl (cy 100, 300, .inl (fun _ => 0))), (q2, .inl (cy 102, 2, .inl (fun _ => 0))), (q3, .inl (cy 100, 4, .inl (fun _ => 0))), (q4, .inl (cy 100, 4, .inl (fun _ => 0))), (q5, .inl (cy 100, 4, .inl (fun _ => 0))), (q6, .inl (cy 100, 40, .inl (fun _ => 0)))] := hD
  refine va_putF hx hb hts (ztIn 7 (by decide)) (tY 7) (tTy 7 (by decide)) (tNm 7 (by decide)) hown hK hP hD hS 0 rfl (tCl 7 (by decide)) 7 (by decide) (hts _ tm_728) (fun _ z => z) rfl hin rfl (tTy 7 (by decide) 7 (by decide)) rfl rfl (Nat.le_of_ble_eq_true rfl) id_7_46 (fun H locs hP hD hS => ?_)
  have hP : va_P D vwCl [(h0, .inr (7, [.ref q1, .ref q2, .int 0, .ref q3, .ref q4, .ref q5, .int 0, .ref q6, .int 0, .null, .null, .null, .null, .int 0, .null, .int 0, .long 0, .int 0, .int 0, .int 0, .null, .int 0, .null, .int 0, .null, .null, .null, .null])), (q1, .inl (cy 100, 300, .inl (fun _ => 0))), (q2, .inl (cy 102, 2, .inl (fun _ => 0))), (q3, .inl (cy 100, 4, .inl (fun _ => 0))), (q4, .inl (cy 100, 4, .inl (fun _ => 0))), (q5, .inl (cy 100, 4, .inl (fun _ => 0))), (q6, .inl (cy 100, 40, .inl (fun _ => 0)))] H := hP
  have hD : va_D A [(h0, .inr (7, [.ref q1, .ref q2, .int 0, .ref q3, .ref q4, .ref q5, .int 0, .ref q6, .int 0, .null, .null, .null, .null, .int 0, .null, .int 0, .long 0, .int 0, .int 0, .int 0, .null, .int 0, .null, .int 0, .null, .null, .null, .null])), (q1, .inl (cy 100, 300, .inl (fun _ => 0))), (q2, .inl (cy 102, 2, .inl (fun _ => 0))), (q3, .inl (cy 100, 4, .inl (fun _ => 0))), (q4, .inl (cy 100, 4, .inl (fun _ => 0))), (q5, .inl (cy 100, 4, .inl (fun _ => 0))), (q6, .inl (cy 100, 40, .inl (fun _ => 0)))] := hD
  refine lv_aload_n hx hb id_7_49 rfl (lv_at hl 0 rfl) ?_
  refine lv_bipush (v := 16) hx hb id_7_50 (by decide) ?_
  refine zn_int hx hb (hts _ tm_55) hK hP hD hS hA (N := 16) (by decide) (by decide) (by decide) (Nat.le_of_ble_eq_true rfl) (Nat.le_of_ble_eq_true rfl) id_7_52 (fun q7 H hP hD hS => ?_)
  refine W.widen (k := 7) (n := 370) (by decide) (by decide) ?_
  have hP : va_P D vwCl [(h0, .inr (7, [.ref q1, .ref q2, .int 0, .ref q3, .ref q4, .ref q5, .int 0, .ref q6, .int 0, .null, .null, .null, .null, .int 0, .null, .int 0, .long 0, .int 0, .int 0, .int 0, .null, .int 0, .null, .int 0, .null, .null, .null, .null])), (q1, .inl (cy 100, 300, .inl (fun _ => 0))), (q2, .inl (cy 102, 2, .inl (fun _ => 0))), (q3, .inl (cy 100, 4, .inl (fun _ => 0))), (q4, .inl (cy 100, 4, .inl (fun _ => 0))), (q5, .inl (cy 100, 4, .inl (fun _ => 0))), (q6, .inl (cy 100, 40, .inl (fun _ => 0))), (q7, .inl (cy 100, 16, .inl (fun _ => 0)))] H := hP
  have hD : va_D A [(h0, .inr (7, [.ref q1, .ref q2, .int 0, .ref q3, .ref q4, .ref q5, .int 0, .ref q6, .int 0, .null, .null, .null, .null, .int 0, .null, .int 0, .long 0, .int 0, .int 0, .int 0, .null, .int 0, .null, .int 0, .null, .null, .null, .null])), (q1, .inl (cy 100, 300, .inl (fun _ => 0))), (q2, .inl (cy 102, 2, .inl (fun _ => 0))), (q3, .inl (cy 100, 4, .inl (fun _ => 0))), (q4, .inl (cy 100, 4, .inl (fun _ => 0))), (q5, .inl (cy 100, 4, .inl (fun _ => 0))), (q6, .inl (cy 100, 40, .inl (fun _ => 0))), (q7, .inl (cy 100, 16, .inl (fun _ => 0)))] := hD
  refine va_putF hx hb hts (ztIn 7 (by decide)) (tY 7) (tTy 7 (by decide)) (tNm 7 (by decide)) hown hK hP hD hS 0 rfl (tCl 7 (by decide)) 9 (by decide) (hts _ tm_730) (fun _ z => z) rfl hin rfl (tTy 7 (by decide) 9 (by decide)) rfl rfl (Nat.le_of_ble_eq_true rfl) id_7_54 (fun H locs hP hD hS => ?_)
  have hP : va_P D vwCl [(h0, .inr (7, [.ref q1, .ref q2, .int 0, .ref q3, .ref q4, .ref q5, .int 0, .ref q6, .int 0, .ref q7, .null, .null, .null, .int 0, .null, .int 0, .long 0, .int 0, .int 0, .int 0, .null, .int 0, .null, .int 0, .null, .null, .null, .null])), (q1, .inl (cy 100, 300, .inl (fun _ => 0))), (q2, .inl (cy 102, 2, .inl (fun _ => 0))), (q3, .inl (cy 100, 4, .inl (fun _ => 0))), (q4, .inl (cy 100, 4, .inl (fun _ => 0))), (q5, .inl (cy 100, 4, .inl (fun _ => 0))), (q6, .inl (cy 100, 40, .inl (fun _ => 0))), (q7, .inl (cy 100, 16, .inl (fun _ => 0)))] H := hP
  have hD : va_D A [(h0, .inr (7, [.ref q1, .ref q2, .int 0, .ref q3, .ref q4, .ref q5, .int 0, .ref q6, .int 0, .ref q7, .null, .null, .null, .int 0, .null, .int 0, .long 0, .int 0, .int 0, .int 0, .null, .int 0, .null, .int 0, .null, .null, .null, .null])), (q1, .inl (cy 100, 300, .inl (fun _ => 0))), (q2, .inl (cy 102, 2, .inl (fun _ => 0))), (q3, .inl (cy 100, 4, .inl (fun _ => 0))), (q4, .inl (cy 100, 4, .inl (fun _ => 0))), (q5, .inl (cy 100, 4, .inl (fun _ => 0))), (q6, .inl (cy 100, 40, .inl (fun _ => 0))), (q7, .inl (cy 100, 16, .inl (fun _ => 0)))] := hD
  refine lv_aload_n hx hb id_7_57 rfl (lv_at hl 0 rfl) ?_
  refine lv_iconst (v := 3) hx hb id_7_58 (by decide) ?_
  refine zn_int hx hb (hts _ tm_55) hK hP hD hS hA (N := 3) (by decide) (by decide) (by decide) (Nat.le_of_ble_eq_true rfl) (Nat.le_of_ble_eq_true rfl) id_7_59 (fun q8 H hP hD hS => ?_)
  refine W.widen (k := 8) (n := 373) (by decide) (by decide) ?_
  have hP : va_P D vwCl [(h0, .inr (7, [.ref q1, .ref q2, .int 0, .ref q3, .ref q4, .ref q5, .int 0, .ref q6, .int 0, .ref q7, .null, .null, .null, .int 0, .null, .int 0, .long 0, .int 0, .int 0, .int 0, .null, .int 0, .null, .int 0, .null, .null, .null, .null])), (q1, .inl (cy 100, 300, .inl (fun _ => 0))), (q2, .inl (cy 102, 2, .inl (fun _ => 0))), (q3, .inl (cy 100, 4, .inl (fun _ => 0))), (q4, .inl (cy 100, 4, .inl (fun _ => 0))), (q5, .inl (cy 100, 4, .inl (fun _ => 0))), (q6, .inl (cy 100, 40, .inl (fun _ => 0))), (q7, .inl (cy 100, 16, .inl (fun _ => 0))), (q8, .inl (cy 100, 3, .inl (fun _ => 0)))] H := hP
  have hD : va_D A [(h0, .inr (7, [.ref q1, .ref q2, .int 0, .ref q3, .ref q4, .ref q5, .int 0, .ref q6, .int 0, .ref q7, .null, .null, .null, .int 0, .null, .int 0, .long 0, .int 0, .int 0, .int 0, .null, .int 0, .null, .int 0, .null, .null, .null, .null])), (q1, .inl (cy 100, 300, .inl (fun _ => 0))), (q2, .inl (cy 102, 2, .inl (fun _ => 0))), (q3, .inl (cy 100, 4, .inl (fun _ => 0))), (q4, .inl (cy 100, 4, .inl (fun _ => 0))), (q5, .inl (cy 100, 4, .inl (fun _ => 0))), (q6, .inl (cy 100, 40, .inl (fun _ => 0))), (q7, .inl (cy 100, 16, .inl (fun _ => 0))), (q8, .inl (cy 100, 3, .inl (fun _ => 0)))] := hD
  refine va_putF hx hb hts (ztIn 7 (by decide)) (tY 7) (tTy 7 (by decide)) (tNm 7 (by decide)) hown hK hP hD hS 0 rfl (tCl 7 (by decide)) 10 (by decide) (hts _ tm_731) (fun _ z => z) rfl hin rfl (tTy 7 (by decide) 10 (by decide)) rfl rfl (Nat.le_of_ble_eq_true rfl) id_7_61 (fun H locs hP hD hS => ?_)
  have hP : va_P D vwCl [(h0, .inr (7, [.ref q1, .ref q2, .int 0, .ref q3, .ref q4, .ref q5, .int 0, .ref q6, .int 0, .ref q7, .ref q8, .null, .null, .int 0, .null, .int 0, .long 0, .int 0, .int 0, .int 0, .null, .int 0, .null, .int 0, .null, .null, .null, .null])), (q1, .inl (cy 100, 300, .inl (fun _ => 0))), (q2, .inl (cy 102, 2, .inl (fun _ => 0))), (q3, .inl (cy 100, 4, .inl (fun _ => 0))), (q4, .inl (cy 100, 4, .inl (fun _ => 0))), (q5, .inl (cy 100, 4, .inl (fun _ => 0))), (q6, .inl (cy 100, 40, .inl (fun _ => 0))), (q7, .inl (cy 100, 16, .inl (fun _ => 0))), (q8, .inl (cy 100, 3, .inl (fun _ => 0)))] H := hP
  have hD : va_D A [(h0, .inr (7, [.ref q1, .ref q2, .int 0, .ref q3, .ref q4, .ref q5, .int 0, .ref q6, .int 0, .ref q7, .ref q8, .null, .null, .int 0, .null, .int 0, .long 0, .int 0, .int 0, .int 0, .null, .int 0, .null, .int 0, .null, .null, .null, .null])), (q1, .inl (cy 100, 300, .inl (fun _ => 0))), (q2, .inl (cy 102, 2, .inl (fun _ => 0))), (q3, .inl (cy 100, 4, .inl (fun _ => 0))), (q4, .inl (cy 100, 4, .inl (fun _ => 0))), (q5, .inl (cy 100, 4, .inl (fun _ => 0))), (q6, .inl (cy 100, 40, .inl (fun _ => 0))), (q7, .inl (cy 100, 16, .inl (fun _ => 0))), (q8, .inl (cy 100, 3, .inl (fun _ => 0)))] := hD
  refine lv_aload_n hx hb id_7_64 rfl (lv_at hl 0 rfl) ?_
  refine lv_iconst (v := 3) hx hb id_7_65 (by decide) ?_
  refine zn_int hx hb (hts _ tm_55) hK hP hD hS hA (N := 3) (by decide) (by decide) (by decide) (Nat.le_of_ble_eq_true rfl) (Nat.le_of_ble_eq_true rfl) id_7_66 (fun q9 H hP hD hS => ?_)
  refine W.widen (k := 9) (n := 376) (by decide) (by decide) ?_
  have hP : va_P D vwCl [(h0, .inr (7, [.ref q1, .ref q2, .int 0, .ref q3, .ref q4, .ref q5, .int 0, .ref q6, .int 0, .ref q7, .ref q8, .null, .null, .int 0, .null, .int 0, .long 0, .int 0, .int 0, .int 0, .null, .int 0, .null, .int 0, .null, .null, .null, .null])), (q1, .inl (cy 100, 300, .inl (fun _ => 0))), (q2, .inl (cy 102, 2, .inl (fun _ => 0))), (q3, .inl (cy 100, 4, .inl (fun _ => 0))), (q4, .inl (cy 100, 4, .inl (fun _ => 0))), (q5, .inl (cy 100, 4, .inl (fun _ => 0))), (q6, .inl (cy 100, 40, .inl (fun _ => 0))), (q7, .inl (cy 100, 16, .inl (fun _ => 0))), (q8, .inl (cy 100, 3, .inl (fun _ => 0))), (q9, .inl (cy 100, 3, .inl (fun _ => 0)))] H := hP
  have hD : va_D A [(h0, .inr (7, [.ref q1, .ref q2, .int 0, .ref q3, .ref q4, .ref q5, .int 0, .ref q6, .int 0, .ref q7, .ref q8, .null, .null, .int 0, .null, .int 0, .long 0, .int 0, .int 0, .int 0, .null, .int 0, .null, .int 0, .null, .null, .null, .null])), (q1, .inl (cy 100, 300, .inl (fun _ => 0))), (q2, .inl (cy 102, 2, .inl (fun _ => 0))), (q3, .inl (cy 100, 4, .inl (fun _ => 0))), (q4, .inl (cy 100, 4, .inl (fun _ => 0))), (q5, .inl (cy 100, 4, .inl (fun _ => 0))), (q6, .inl (cy 100, 40, .inl (fun _ => 0))), (q7, .inl (cy 100, 16, .inl (fun _ => 0))), (q8, .inl (cy 100, 3, .inl (fun _ => 0))), (q9, .inl (cy 100, 3, .inl (fun _ => 0)))] := hD
  refine va_putF hx hb hts (ztIn 7 (by decide)) (tY 7) (tTy 7 (by decide)) (tNm 7 (by decide)) hown hK hP hD hS 0 rfl (tCl 7 (by decide)) 11 (by decide) (hts _ tm_732) (fun _ z => z) rfl hin rfl (tTy 7 (by decide) 11 (by decide)) rfl rfl (Nat.le_of_ble_eq_true rfl) id_7_68 (fun H locs hP hD hS => ?_)
  have hP : va_P D vwCl [(h0, .inr (7, [.ref q1, .ref q2, .int 0, .ref q3, .ref q4, .ref q5, .int 0, .ref q6, .int 0, .ref q7, .ref q8, .ref q9, .null, .int 0, .null, .int 0, .long 0, .int 0, .int 0, .int 0, .null, .int 0, .null, .int 0, .null, .null, .null, .null])), (q1, .inl (cy 100, 300, .inl (fun _ => 0))), (q2, .inl (cy 102, 2, .inl (fun _ => 0))), (q3, .inl (cy 100, 4, .inl (fun _ => 0))), (q4, .inl (cy 100, 4, .inl (fun _ => 0))), (q5, .inl (cy 100, 4, .inl (fun _ => 0))), (q6, .inl (cy 100, 40, .inl (fun _ => 0))), (q7, .inl (cy 100, 16, .inl (fun _ => 0))), (q8, .inl (cy 100, 3, .inl (fun _ => 0))), (q9, .inl (cy 100, 3, .inl (fun _ => 0)))] H := hP
  have hD : va_D A [(h0, .inr (7, [.ref q1, .ref q2, .int 0, .ref q3, .ref q4, .ref q5, .int 0, .ref q6, .int 0, .ref q7, .ref q8, .ref q9, .null, .int 0, .null, .int 0, .long 0, .int 0, .int 0, .int 0, .null, .int 0, .null, .int 0, .null, .null, .null, .null])), (q1, .inl (cy 100, 300, .inl (fun _ => 0))), (q2, .inl (cy 102, 2, .inl (fun _ => 0))), (q3, .inl (cy 100, 4, .inl (fun _ => 0))), (q4, .inl (cy 100, 4, .inl (fun _ => 0))), (q5, .inl (cy 100, 4, .inl (fun _ => 0))), (q6, .inl (cy 100, 40, .inl (fun _ => 0))), (q7, .inl (cy 100, 16, .inl (fun _ => 0))), (q8, .inl (cy 100, 3, .inl (fun _ => 0))), (q9, .inl (cy 100, 3, .inl (fun _ => 0)))] := hD
  refine lv_aload_n hx hb id_7_71 rfl (lv_at hl 0 rfl) ?_
  refine lv_iconst (v := 3) hx hb id_7_72 (by decide) ?_
  refine zn_int hx hb (hts _ tm_55) hK hP hD hS hA (N := 3) (by decide) (by decide) (by decide) (Nat.le_of_ble_eq_true rfl) (Nat.le_of_ble_eq_true rfl) id_7_73 (fun q10 H hP hD hS => ?_)
  refine W.widen (k := 10) (n := 379) (by decide) (by decide) ?_
  have hP : va_P D vwCl [(h0, .inr (7, [.ref q1, .ref q2, .int 0, .ref q3, .ref q4, .ref q5, .int 0, .ref q6, .int 0, .ref q7, .ref q8, .ref q9, .null, .int 0, .null, .int 0, .long 0, .int 0, .int 0, .int 0, .null, .int 0, .null, .int 0, .null, .null, .null, .null])), (q1, .inl (cy 100, 300, .inl (fun _ => 0))), (q2, .inl (cy 102, 2, .inl (fun _ => 0))), (q3, .inl (cy 100, 4, .inl (fun _ => 0))), (q4, .inl (cy 100, 4, .inl (fun _ => 0))), (q5, .inl (cy 100, 4, .inl (fun _ => 0))), (q6, .inl (cy 100, 40, .inl (fun _ => 0))), (q7, .inl (cy 100, 16, .inl (fun _ => 0))), (q8, .inl (cy 100, 3, .inl (fun _ => 0))), (q9, .inl (cy 100, 3, .inl (fun _ => 0))), (q10, .inl (cy 100, 3, .inl (fun _ => 0)))] H := hP
  have hD : va_D A [(h0, .inr (7, [.ref q1, .ref q2, .int 0, .ref q3, .ref q4, .ref q5, .int 0, .ref q6, .int 0, .ref q7, .ref q8, .ref q9, .null, .int 0, .null, .int 0, .long 0, .int 0, .int 0, .int 0, .null, .int 0, .null, .int 0, .null, .null, .null, .null])), (q1, .inl (cy 100, 300, .inl (fun _ => 0))), (q2, .inl (cy 102, 2, .inl (fun _ => 0))), (q3, .inl (cy 100, 4, .inl (fun _ => 0))), (q4, .inl (cy 100, 4, .inl (fun _ => 0))), (q5, .inl (cy 100, 4, .inl (fun _ => 0))), (q6, .inl (cy 100, 40, .inl (fun _ => 0))), (q7, .inl (cy 100, 16, .inl (fun _ => 0))), (q8, .inl (cy 100, 3, .inl (fun _ => 0))), (q9, .inl (cy 100, 3, .inl (fun _ => 0))), (q10, .inl (cy 100, 3, .inl (fun _ => 0)))] := hD
  refine va_putF hx hb hts (ztIn 7 (by decide)) (tY 7) (tTy 7 (by decide)) (tNm 7 (by decide)) hown hK hP hD hS 0 rfl (tCl 7 (by decide)) 12 (by decide) (hts _ tm_733) (fun _ z => z) rfl hin rfl (tTy 7 (by decide) 12 (by decide)) rfl rfl (Nat.le_of_ble_eq_true rfl) id_7_75 (fun H locs hP hD hS => ?_)
  have hP : va_P D vwCl [(h0, .inr (7, [.ref q1, .ref q2, .int 0, .ref q3, .ref q4, .ref q5, .int 0, .ref q6, .int 0, .ref q7, .ref q8, .ref q9, .ref q10, .int 0, .null, .int 0, .long 0, .int 0, .int 0, .int 0, .null, .int 0, .null, .int 0, .null, .null, .null, .null])), (q1, .inl (cy 100, 300, .inl (fun _ => 0))), (q2, .inl (cy 102, 2, .inl (fun _ => 0))), (q3, .inl (cy 100, 4, .inl (fun _ => 0))), (q4, .inl (cy 100, 4, .inl (fun _ => 0))), (q5, .inl (cy 100, 4, .inl (fun _ => 0))), (q6, .inl (cy 100, 40, .inl (fun _ => 0))), (q7, .inl (cy 100, 16, .inl (fun _ => 0))), (q8, .inl (cy 100, 3, .inl (fun _ => 0))), (q9, .inl (cy 100, 3, .inl (fun _ => 0))), (q10, .inl (cy 100, 3, .inl (fun _ => 0)))] H := hP
  have hD : va_D A [(h0, .inr (7, [.ref q1, .ref q2, .int 0, .ref q3, .ref q4, .ref q5, .int 0, .ref q6, .int 0, .ref q7, .ref q8, .ref q9, .ref q10, .int 0, .null, .int 0, .long 0, .int 0, .int 0, .int 0, .null, .int 0, .null, .int 0, .null, .null, .null, .null])), (q1, .inl (cy 100, 300, .inl (fun _ => 0))), (q2, .inl (cy 102, 2, .inl (fun _ => 0))), (q3, .inl (cy 100, 4, .inl (fun _ => 0))), (q4, .inl (cy 100, 4, .inl (fun _ => 0))), (q5, .inl (cy 100, 4, .inl (fun _ => 0))), (q6, .inl (cy 100, 40, .inl (fun _ => 0))), (q7, .inl (cy 100, 16, .inl (fun _ => 0))), (q8, .inl (cy 100, 3, .inl (fun _ => 0))), (q9, .inl (cy 100, 3, .inl (fun _ => 0))), (q10, .inl (cy 100, 3, .inl (fun _ => 0)))] := hD
  refine lv_aload_n hx hb id_7_78 rfl (lv_at hl 0 rfl) ?_
  refine lv_sipush (v := 300) hx hb id_7_79 (by decide) ?_
  refine zn_int hx hb (hts _ tm_55) hK hP hD hS hA (N := 300) (by decide) (by decide) (by decide) (Nat.le_of_ble_eq_true rfl) (Nat.le_of_ble_eq_true rfl) id_7_82 (fun q11 H hP hD hS => ?_)
  refine W.widen (k := 11) (n := 679) (by decide) (by decide) ?_
  have hP : va_P D vwCl [(h0, .inr (7, [.ref q1, .ref q2, .int 0, .ref q3, .ref q4, .ref q5, .int 0, .ref q6, .int 0, .ref q7, .ref q8, .ref q9, .ref q10, .int 0, .null, .int 0, .long 0, .int 0, .int 0, .int 0, .null, .int 0, .null, .int 0, .null, .null, .null, .null])), (q1, .inl (cy 100, 300, .inl (fun _ => 0))), (q2, .inl (cy 102, 2, .inl (fun _ => 0))), (q3, .inl (cy 100, 4, .inl (fun _ => 0))), (q4, .inl (cy 100, 4, .inl (fun _ => 0))), (q5, .inl (cy 100, 4, .inl (fun _ => 0))), (q6, .inl (cy 100, 40, .inl (fun _ => 0))), (q7, .inl (cy 100, 16, .inl (fun _ => 0))), (q8, .inl (cy 100, 3, .inl (fun _ => 0))), (q9, .inl (cy 100, 3, .inl (fun _ => 0))), (q10, .inl (cy 100, 3, .inl (fun _ => 0))), (q11, .inl (cy 100, 300, .inl (fun _ => 0)))] H := hP
  have hD : va_D A [(h0, .inr (7, [.ref q1, .ref q2, .int 0, .ref q3, .ref q4, .ref q5, .int 0, .ref q6, .int 0, .ref q7, .ref q8, .ref q9, .ref q10, .int 0, .null, .int 0, .long 0, .int 0, .int 0, .int 0, .null, .int 0, .null, .int 0, .null, .null, .null, .null])), (q1, .inl (cy 100, 300, .inl (fun _ => 0))), (q2, .inl (cy 102, 2, .inl (fun _ => 0))), (q3, .inl (cy 100, 4, .inl (fun _ => 0))), (q4, .inl (cy 100, 4, .inl (fun _ => 0))), (q5, .inl (cy 100, 4, .inl (fun _ => 0))), (q6, .inl (cy 100, 40, .inl (fun _ => 0))), (q7, .inl (cy 100, 16, .inl (fun _ => 0))), (q8, .inl (cy 100, 3, .inl (fun _ => 0))), (q9, .inl (cy 100, 3, .inl (fun _ => 0))), (q10, .inl (cy 100, 3, .inl (fun _ => 0))), (q11, .inl (cy 100, 300, .inl (fun _ => 0)))] := hD
  refine va_putF hx hb hts (ztIn 7 (by decide)) (tY 7) (tTy 7 (by decide)) (tNm 7 (by decide)) hown hK hP hD hS 0 rfl (tCl 7 (by decide)) 14 (by decide) (hts _ tm_735) (fun _ z => z) rfl hin rfl (tTy 7 (by decide) 14 (by decide)) rfl rfl (Nat.le_of_ble_eq_true rfl) id_7_84 (fun H locs hP hD hS => ?_)
  have hP : va_P D vwCl [(h0, .inr (7, [.ref q1, .ref q2, .int 0, .ref q3, .ref q4, .ref q5, .int 0, .ref q6, .int 0, .ref q7, .ref q8, .ref q9, .ref q10, .int 0, .ref q11, .int 0, .long 0, .int 0, .int 0, .int 0, .null, .int 0, .null, .int 0, .null, .null, .null, .null])), (q1, .inl (cy 100, 300, .inl (fun _ => 0))), (q2, .inl (cy 102, 2, .inl (fun _ => 0))), (q3, .inl (cy 100, 4, .inl (fun _ => 0))), (q4, .inl (cy 100, 4, .inl (fun _ => 0))), (q5, .inl (cy 100, 4, .inl (fun _ => 0))), (q6, .inl (cy 100, 40, .inl (fun _ => 0))), (q7, .inl (cy 100, 16, .inl (fun _ => 0))), (q8, .inl (cy 100, 3, .inl (fun _ => 0))), (q9, .inl (cy 100, 3, .inl (fun _ => 0))), (q10, .inl (cy 100, 3, .inl (fun _ => 0))), (q11, .inl (cy 100, 300, .inl (fun _ => 0)))] H := hP
  have hD : va_D A [(h0, .inr (7, [.ref q1, .ref q2, .int 0, .ref q3, .ref q4, .ref q5, .int 0, .ref q6, .int 0, .ref q7, .ref q8, .ref q9, .ref q10, .int 0, .ref q11, .int 0, .long 0, .int 0, .int 0, .int 0, .null, .int 0, .null, .int 0, .null, .null, .null, .null])), (q1, .inl (cy 100, 300, .inl (fun _ => 0))), (q2, .inl (cy 102, 2, .inl (fun _ => 0))), (q3, .inl (cy 100, 4, .inl (fun _ => 0))), (q4, .inl (cy 100, 4, .inl (fun _ => 0))), (q5, .inl (cy 100, 4, .inl (fun _ => 0))), (q6, .inl (cy 100, 40, .inl (fun _ => 0))), (q7, .inl (cy 100, 16, .inl (fun _ => 0))), (q8, .inl (cy 100, 3, .inl (fun _ => 0))), (q9, .inl (cy 100, 3, .inl (fun _ => 0))), (q10, .inl (cy 100, 3, .inl (fun _ => 0))), (q11, .inl (cy 100, 300, .inl (fun _ => 0)))] := hD
  refine lv_aload_n hx hb id_7_87 rfl (lv_at hl 0 rfl) ?_
  refine lv_bipush (v := 12) hx hb id_7_88 (by decide) ?_
  refine zn_int hx hb (hts _ tm_55) hK hP hD hS hA (N := 12) (by decide) (by decide) (by decide) (Nat.le_of_ble_eq_true rfl) (Nat.le_of_ble_eq_true rfl) id_7_90 (fun q12 H hP hD hS => ?_)
  refine W.widen (k := 12) (n := 691) (by decide) (by decide) ?_
  have hP : va_P D vwCl [(h0, .inr (7, [.ref q1, .ref q2, .int 0, .ref q3, .ref q4, .ref q5, .int 0, .ref q6, .int 0, .ref q7, .ref q8, .ref q9, .ref q10, .int 0, .ref q11, .int 0, .long 0, .int 0, .int 0, .int 0, .null, .int 0, .null, .int 0, .null, .null, .null, .null])), (q1, .inl (cy 100, 300, .inl (fun _ => 0))), (q2, .inl (cy 102, 2, .inl (fun _ => 0))), (q3, .inl (cy 100, 4, .inl (fun _ => 0))), (q4, .inl (cy 100, 4, .inl (fun _ => 0))), (q5, .inl (cy 100, 4, .inl (fun _ => 0))), (q6, .inl (cy 100, 40, .inl (fun _ => 0))), (q7, .inl (cy 100, 16, .inl (fun _ => 0))), (q8, .inl (cy 100, 3, .inl (fun _ => 0))), (q9, .inl (cy 100, 3, .inl (fun _ => 0))), (q10, .inl (cy 100, 3, .inl (fun _ => 0))), (q11, .inl (cy 100, 300, .inl (fun _ => 0))), (q12, .inl (cy 100, 12, .inl (fun _ => 0)))] H := hP
  have hD : va_D A [(h0, .inr (7, [.ref q1, .ref q2, .int 0, .ref q3, .ref q4, .ref q5, .int 0, .ref q6, .int 0, .ref q7, .ref q8, .ref q9, .ref q10, .int 0, .ref q11, .int 0, .long 0, .int 0, .int 0, .int 0, .null, .int 0, .null, .int 0, .null, .null, .null, .null])), (q1, .inl (cy 100, 300, .inl (fun _ => 0))), (q2, .inl (cy 102, 2, .inl (fun _ => 0))), (q3, .inl (cy 100, 4, .inl (fun _ => 0))), (q4, .inl (cy 100, 4, .inl (fun _ => 0))), (q5, .inl (cy 100, 4, .inl (fun _ => 0))), (q6, .inl (cy 100, 40, .inl (fun _ => 0))), (q7, .inl (cy 100, 16, .inl (fun _ => 0))), (q8, .inl (cy 100, 3, .inl (fun _ => 0))), (q9, .inl (cy 100, 3, .inl (fun _ => 0))), (q10, .inl (cy 100, 3, .inl (fun _ => 0))), (q11, .inl (cy 100, 300, .inl (fun _ => 0))), (q12, .inl (cy 100, 12, .inl (fun _ => 0)))] := hD
  refine va_putF hx hb hts (ztIn 7 (by decide)) (tY 7) (tTy 7 (by decide)) (tNm 7 (by decide)) hown hK hP hD hS 0 rfl (tCl 7 (by decide)) 20 (by decide) (hts _ tm_741) (fun _ z => z) rfl hin rfl (tTy 7 (by decide) 20 (by decide)) rfl rfl (Nat.le_of_ble_eq_true rfl) id_7_92 (fun H locs hP hD hS => ?_)
  have hP : va_P D vwCl [(h0, .inr (7, [.ref q1, .ref q2, .int 0, .ref q3, .ref q4, .ref q5, .int 0, .ref q6, .int 0, .ref q7, .ref q8, .ref q9, .ref q10, .int 0, .ref q11, .int 0, .long 0, .int 0, .int 0, .int 0, .ref q12, .int 0, .null, .int 0, .null, .null, .null, .null])), (q1, .inl (cy 100, 300, .inl (fun _ => 0))), (q2, .inl (cy 102, 2, .inl (fun _ => 0))), (q3, .inl (cy 100, 4, .inl (fun _ => 0))), (q4, .inl (cy 100, 4, .inl (fun _ => 0))), (q5, .inl (cy 100, 4, .inl (fun _ => 0))), (q6, .inl (cy 100, 40, .inl (fun _ => 0))), (q7, .inl (cy 100, 16, .inl (fun _ => 0))), (q8, .inl (cy 100, 3, .inl (fun _ => 0))), (q9, .inl (cy 100, 3, .inl (fun _ => 0))), (q10, .inl (cy 100, 3, .inl (fun _ => 0))), (q11, .inl (cy 100, 300, .inl (fun _ => 0))), (q12, .inl (cy 100, 12, .inl (fun _ => 0)))] H := hP
  have hD : va_D A [(h0, .inr (7, [.ref q1, .ref q2, .int 0, .ref q3, .ref q4, .ref q5, .int 0, .ref q6, .int 0, .ref q7, .ref q8, .ref q9, .ref q10, .int 0, .ref q11, .int 0, .long 0, .int 0, .int 0, .int 0, .ref q12, .int 0, .null, .int 0, .null, .null, .null, .null])), (q1, .inl (cy 100, 300, .inl (fun _ => 0))), (q2, .inl (cy 102, 2, .inl (fun _ => 0))), (q3, .inl (cy 100, 4, .inl (fun _ => 0))), (q4, .inl (cy 100, 4, .inl (fun _ => 0))), (q5, .inl (cy 100, 4, .inl (fun _ => 0))), (q6, .inl (cy 100, 40, .inl (fun _ => 0))), (q7, .inl (cy 100, 16, .inl (fun _ => 0))), (q8, .inl (cy 100, 3, .inl (fun _ => 0))), (q9, .inl (cy 100, 3, .inl (fun _ => 0))), (q10, .inl (cy 100, 3, .inl (fun _ => 0))), (q11, .inl (cy 100, 300, .inl (fun _ => 0))), (q12, .inl (cy 100, 12, .inl (fun _ => 0)))] := hD
  refine lv_aload_n hx hb id_7_95 rfl (lv_at hl 0 rfl) ?_
  refine lv_bipush (v := 40) hx hb id_7_96 (by decide) ?_
  refine zn_int hx hb (hts _ tm_55) hK hP hD hS hA (N := 40) (by decide) (by decide) (by decide) (Nat.le_of_ble_eq_true rfl) (Nat.le_of_ble_eq_true rfl) id_7_98 (fun q13 H hP hD hS => ?_)
  refine W.widen (k := 13) (n := 731) (by decide) (by decide) ?_
  have hP : va_P D vwCl [(h0, .inr (7, [.ref q1, .ref q2, .int 0, .ref q3, .ref q4, .ref q5, .int 0, .ref q6, .int 0, .ref q7, .ref q8, .ref q9, .ref q10, .int 0, .ref q11, .int 0, .long 0, .int 0, .int 0, .int 0, .ref q12, .int 0, .null, .int 0, .null, .null, .null, .null])), (q1, .inl (cy 100, 300, .inl (fun _ => 0))), (q2, .inl (cy 102, 2, .inl (fun _ => 0))), (q3, .inl (cy 100, 4, .inl (fun _ => 0))), (q4, .inl (cy 100, 4, .inl (fun _ => 0))), (q5, .inl (cy 100, 4, .inl (fun _ => 0))), (q6, .inl (cy 100, 40, .inl (fun _ => 0))), (q7, .inl (cy 100, 16, .inl (fun _ => 0))), (q8, .inl (cy 100, 3, .inl (fun _ => 0))), (q9, .inl (cy 100, 3, .inl (fun _ => 0))), (q10, .inl (cy 100, 3, .inl (fun _ => 0))), (q11, .inl (cy 100, 300, .inl (fun _ => 0))), (q12, .inl (cy 100, 12, .inl (fun _ => 0))), (q13, .inl (cy 100, 40, .inl (fun _ => 0)))] H := hP
  have hD : va_D A [(h0, .inr (7, [.ref q1, .ref q2, .int 0, .ref q3, .ref q4, .ref q5, .int 0, .ref q6, .int 0, .ref q7, .ref q8, .ref q9, .ref q10, .int 0, .ref q11, .int 0, .long 0, .int 0, .int 0, .int 0, .ref q12, .int 0, .null, .int 0, .null, .null, .null, .null])), (q1, .inl (cy 100, 300, .inl (fun _ => 0))), (q2, .inl (cy 102, 2, .inl (fun _ => 0))), (q3, .inl (cy 100, 4, .inl (fun _ => 0))), (q4, .inl (cy 100, 4, .inl (fun _ => 0))), (q5, .inl (cy 100, 4, .inl (fun _ => 0))), (q6, .inl (cy 100, 40, .inl (fun _ => 0))), (q7, .inl (cy 100, 16, .inl (fun _ => 0))), (q8, .inl (cy 100, 3, .inl (fun _ => 0))), (q9, .inl (cy 100, 3, .inl (fun _ => 0))), (q10, .inl (cy 100, 3, .inl (fun _ => 0))), (q11, .inl (cy 100, 300, .inl (fun _ => 0))), (q12, .inl (cy 100, 12, .inl (fun _ => 0))), (q13, .inl (cy 100, 40, .inl (fun _ => 0)))] := hD
  refine va_putF hx hb hts (ztIn 7 (by decide)) (tY 7) (tTy 7 (by decide)) (tNm 7 (by decide)) hown hK hP hD hS 0 rfl (tCl 7 (by decide)) 22 (by decide) (hts _ tm_743) (fun _ z => z) rfl hin rfl (tTy 7 (by decide) 22 (by decide)) rfl rfl (Nat.le_of_ble_eq_true rfl) id_7_100 (fun H locs hP hD hS => ?_)
  have hP : va_P D vwCl [(h0, .inr (7, [.ref q1, .ref q2, .int 0, .ref q3, .ref q4, .ref q5, .int 0, .ref q6, .int 0, .ref q7, .ref q8, .ref q9, .ref q10, .int 0, .ref q11, .int 0, .long 0, .int 0, .int 0, .int 0, .ref q12, .int 0, .ref q13, .int 0, .null, .null, .null, .null])), (q1, .inl (cy 100, 300, .inl (fun _ => 0))), (q2, .inl (cy 102, 2, .inl (fun _ => 0))), (q3, .inl (cy 100, 4, .inl (fun _ => 0))), (q4, .inl (cy 100, 4, .inl (fun _ => 0))), (q5, .inl (cy 100, 4, .inl (fun _ => 0))), (q6, .inl (cy 100, 40, .inl (fun _ => 0))), (q7, .inl (cy 100, 16, .inl (fun _ => 0))), (q8, .inl (cy 100, 3, .inl (fun _ => 0))), (q9, .inl (cy 100, 3, .inl (fun _ => 0))), (q10, .inl (cy 100, 3, .inl (fun _ => 0))), (q11, .inl (cy 100, 300, .inl (fun _ => 0))), (q12, .inl (cy 100, 12, .inl (fun _ => 0))), (q13, .inl (cy 100, 40, .inl (fun _ => 0)))] H := hP
  have hD : va_D A [(h0, .inr (7, [.ref q1, .ref q2, .int 0, .ref q3, .ref q4, .ref q5, .int 0, .ref q6, .int 0, .ref q7, .ref q8, .ref q9, .ref q10, .int 0, .ref q11, .int 0, .long 0, .int 0, .int 0, .int 0, .ref q12, .int 0, .ref q13, .int 0, .null, .null, .null, .null])), (q1, .inl (cy 100, 300, .inl (fun _ => 0))), (q2, .inl (cy 102, 2, .inl (fun _ => 0))), (q3, .inl (cy 100, 4, .inl (fun _ => 0))), (q4, .inl (cy 100, 4, .inl (fun _ => 0))), (q5, .inl (cy 100, 4, .inl (fun _ => 0))), (q6, .inl (cy 100, 40, .inl (fun _ => 0))), (q7, .inl (cy 100, 16, .inl (fun _ => 0))), (q8, .inl (cy 100, 3, .inl (fun _ => 0))), (q9, .inl (cy 100, 3, .inl (fun _ => 0))), (q10, .inl (cy 100, 3, .inl (fun _ => 0))), (q11, .inl (cy 100, 300, .inl (fun _ => 0))), (q12, .inl (cy 100, 12, .inl (fun _ => 0))), (q13, .inl (cy 100, 40, .inl (fun _ => 0)))] := hD
  refine lv_aload_n hx hb id_7_103 rfl (lv_at hl 0 rfl) ?_
  refine lv_bipush (v := 16) hx hb id_7_104 (by decide) ?_
  refine zn_int hx hb (hts _ tm_55) hK hP hD hS hA (N := 16) (by decide) (by decide) (by decide) (Nat.le_of_ble_eq_true rfl) (Nat.le_of_ble_eq_true rfl) id_7_106 (fun q14 H hP hD hS => ?_)
  refine W.widen (k := 14) (n := 747) (by decide) (by decide) ?_
  have hP : va_P D vwCl [(h0, .inr (7, [.ref q1, .ref q2, .int 0, .ref q3, .ref q4, .ref q5, .int 0, .ref q6, .int 0, .ref q7, .ref q8, .ref q9, .ref q10, .int 0, .ref q11, .int 0, .long 0, .int 0, .int 0, .int 0, .ref q12, .int 0, .ref q13, .int 0, .null, .null, .null, .null])), (q1, .inl (cy 100, 300, .inl (fun _ => 0))), (q2, .inl (cy 102, 2, .inl (fun _ => 0))), (q3, .inl (cy 100, 4, .inl (fun _ => 0))), (q4, .inl (cy 100, 4, .inl (fun _ => 0))), (q5, .inl (cy 100, 4, .inl (fun _ => 0))), (q6, .inl (cy 100, 40, .inl (fun _ => 0))), (q7, .inl (cy 100, 16, .inl (fun _ => 0))), (q8, .inl (cy 100, 3, .inl (fun _ => 0))), (q9, .inl (cy 100, 3, .inl (fun _ => 0))), (q10, .inl (cy 100, 3, .inl (fun _ => 0))), (q11, .inl (cy 100, 300, .inl (fun _ => 0))), (q12, .inl (cy 100, 12, .inl (fun _ => 0))), (q13, .inl (cy 100, 40, .inl (fun _ => 0))), (q14, .inl (cy 100, 16, .inl (fun _ => 0)))] H := hP
  have hD : va_D A [(h0, .inr (7, [.ref q1, .ref q2, .int 0, .ref q3, .ref q4, .ref q5, .int 0, .ref q6, .int 0, .ref q7, .ref q8, .ref q9, .ref q10, .int 0, .ref q11, .int 0, .long 0, .int 0, .int 0, .int 0, .ref q12, .int 0, .ref q13, .int 0, .null, .null, .null, .null])), (q1, .inl (cy 100, 300, .inl (fun _ => 0))), (q2, .inl (cy 102, 2, .inl (fun _ => 0))), (q3, .inl (cy 100, 4, .inl (fun _ => 0))), (q4, .inl (cy 100, 4, .inl (fun _ => 0))), (q5, .inl (cy 100, 4, .inl (fun _ => 0))), (q6, .inl (cy 100, 40, .inl (fun _ => 0))), (q7, .inl (cy 100, 16, .inl (fun _ => 0))), (q8, .inl (cy 100, 3, .inl (fun _ => 0))), (q9, .inl (cy 100, 3, .inl (fun _ => 0))), (q10, .inl (cy 100, 3, .inl (fun _ => 0))), (q11, .inl (cy 100, 300, .inl (fun _ => 0))), (q12, .inl (cy 100, 12, .inl (fun _ => 0))), (q13, .inl (cy 100, 40, .inl (fun _ => 0))), (q14, .inl (cy 100, 16, .inl (fun _ => 0)))] := hD
  refine va_putF hx hb hts (ztIn 7 (by decide)) (tY 7) (tTy 7 (by decide)) (tNm 7 (by decide)) hown hK hP hD hS 0 rfl (tCl 7 (by decide)) 24 (by decide) (hts _ tm_745) (fun _ z => z) rfl hin rfl (tTy 7 (by decide) 24 (by decide)) rfl rfl (Nat.le_of_ble_eq_true rfl) id_7_108 (fun H locs hP hD hS => ?_)
  have hP : va_P D vwCl [(h0, .inr (7, [.ref q1, .ref q2, .int 0, .ref q3, .ref q4, .ref q5, .int 0, .ref q6, .int 0, .ref q7, .ref q8, .ref q9, .ref q10, .int 0, .ref q11, .int 0, .long 0, .int 0, .int 0, .int 0, .ref q12, .int 0, .ref q13, .int 0, .ref q14, .null, .null, .null])), (q1, .inl (cy 100, 300, .inl (fun _ => 0))), (q2, .inl (cy 102, 2, .inl (fun _ => 0))), (q3, .inl (cy 100, 4, .inl (fun _ => 0))), (q4, .inl (cy 100, 4, .inl (fun _ => 0))), (q5, .inl (cy 100, 4, .inl (fun _ => 0))), (q6, .inl (cy 100, 40, .inl (fun _ => 0))), (q7, .inl (cy 100, 16, .inl (fun _ => 0))), (q8, .inl (cy 100, 3, .inl (fun _ => 0))), (q9, .inl (cy 100, 3, .inl (fun _ => 0))), (q10, .inl (cy 100, 3, .inl (fun _ => 0))), (q11, .inl (cy 100, 300, .inl (fun _ => 0))), (q12, .inl (cy 100, 12, .inl (fun _ => 0))), (q13, .inl (cy 100, 40, .inl (fun _ => 0))), (q14, .inl (cy 100, 16, .inl (fun _ => 0)))] H := hP
  have hD : va_D A [(h0, .inr (7, [.ref q1, .ref q2, .int 0, .ref q3, .ref q4, .ref q5, .int 0, .ref q6, .int 0, .ref q7, .ref q8, .ref q9, .ref q10, .int 0, .ref q11, .int 0, .long 0, .int 0, .int 0, .int 0, .ref q12, .int 0, .ref q13, .int 0, .ref q14, .null, .null, .null])), (q1, .inl (cy 100, 300, .inl (fun _ => 0))), (q2, .inl (cy 102, 2, .inl (fun _ => 0))), (q3, .inl (cy 100, 4, .inl (fun _ => 0))), (q4, .inl (cy 100, 4, .inl (fun _ => 0))), (q5, .inl (cy 100, 4, .inl (fun _ => 0))), (q6, .inl (cy 100, 40, .inl (fun _ => 0))), (q7, .inl (cy 100, 16, .inl (fun _ => 0))), (q8, .inl (cy 100, 3, .inl (fun _ => 0))), (q9, .inl (cy 100, 3, .inl (fun _ => 0))), (q10, .inl (cy 100, 3, .inl (fun _ => 0))), (q11, .inl (cy 100, 300, .inl (fun _ => 0))), (q12, .inl (cy 100, 12, .inl (fun _ => 0))), (q13, .inl (cy 100, 40, .inl (fun _ => 0))), (q14, .inl (cy 100, 16, .inl (fun _ => 0)))] := hD
  refine lv_aload_n hx hb id_7_111 rfl (lv_at hl 0 rfl) ?_
  refine lv_bipush (v := 8) hx hb id_7_112 (by decide) ?_
  refine zn_int hx hb (hts _ tm_55) hK hP hD hS hA (N := 8) (by decide) (by decide) (by decide) (Nat.le_of_ble_eq_true rfl) (Nat.le_of_ble_eq_true rfl) id_7_114 (fun q15 H hP hD hS => ?_)
  refine W.widen (k := 15) (n := 755) (by decide) (by decide) ?_
  have hP : va_P D vwCl [(h0, .inr (7, [.ref q1, .ref q2, .int 0, .ref q3, .ref q4, .ref q5, .int 0, .ref q6, .int 0, .ref q7, .ref q8, .ref q9, .ref q10, .int 0, .ref q11, .int 0, .long 0, .int 0, .int 0, .int 0, .ref q12, .int 0, .ref q13, .int 0, .ref q14, .null, .null, .null])), (q1, .inl (cy 100, 300, .inl (fun _ => 0))), (q2, .inl (cy 102, 2, .inl (fun _ => 0))), (q3, .inl (cy 100, 4, .inl (fun _ => 0))), (q4, .inl (cy 100, 4, .inl (fun _ => 0))), (q5, .inl (cy 100, 4, .inl (fun _ => 0))), (q6, .inl (cy 100, 40, .inl (fun _ => 0))), (q7, .inl (cy 100, 16, .inl (fun _ => 0))), (q8, .inl (cy 100, 3, .inl (fun _ => 0))), (q9, .inl (cy 100, 3, .inl (fun _ => 0))), (q10, .inl (cy 100, 3, .inl (fun _ => 0))), (q11, .inl (cy 100, 300, .inl (fun _ => 0))), (q12, .inl (cy 100, 12, .inl (fun _ => 0))), (q13, .inl (cy 100, 40, .inl (fun _ => 0))), (q14, .inl (cy 100, 16, .inl (fun _ => 0))), (q15, .inl (cy 100, 8, .inl (fun _ => 0)))] H := hP
  have hD : va_D A [(h0, .inr (7, [.ref q1, .ref q2, .int 0, .ref q3, .ref q4, .ref q5, .int 0, .ref q6, .int 0, .ref q7, .ref q8, .ref q9, .ref q10, .int 0, .ref q11, .int 0, .long 0, .int 0, .int 0, .int 0, .ref q12, .int 0, .ref q13, .int 0, .ref q14, .null, .null, .null])), (q1, .inl (cy 100, 300, .inl (fun _ => 0))), (q2, .inl (cy 102, 2, .inl (fun _ => 0))), (q3, .inl (cy 100, 4, .inl (fun _ => 0))), (q4, .inl (cy 100, 4, .inl (fun _ => 0))), (q5, .inl (cy 100, 4, .inl (fun _ => 0))), (q6, .inl (cy 100, 40, .inl (fun _ => 0))), (q7, .inl (cy 100, 16, .inl (fun _ => 0))), (q8, .inl (cy 100, 3, .inl (fun _ => 0))), (q9, .inl (cy 100, 3, .inl (fun _ => 0))), (q10, .inl (cy 100, 3, .inl (fun _ => 0))), (q11, .inl (cy 100, 300, .inl (fun _ => 0))), (q12, .inl (cy 100, 12, .inl (fun _ => 0))), (q13, .inl (cy 100, 40, .inl (fun _ => 0))), (q14, .inl (cy 100, 16, .inl (fun _ => 0))), (q15, .inl (cy 100, 8, .inl (fun _ => 0)))] := hD
  refine va_putF hx hb hts (ztIn 7 (by decide)) (tY 7) (tTy 7 (by decide)) (tNm 7 (by decide)) hown hK hP hD hS 0 rfl (tCl 7 (by decide)) 25 (by decide) (hts _ tm_746) (fun _ z => z) rfl hin rfl (tTy 7 (by decide) 25 (by decide)) rfl rfl (Nat.le_of_ble_eq_true rfl) id_7_116 (fun H locs hP hD hS => ?_)
  have hP : va_P D vwCl [(h0, .inr (7, [.ref q1, .ref q2, .int 0, .ref q3, .ref q4, .ref q5, .int 0, .ref q6, .int 0, .ref q7, .ref q8, .ref q9, .ref q10, .int 0, .ref q11, .int 0, .long 0, .int 0, .int 0, .int 0, .ref q12, .int 0, .ref q13, .int 0, .ref q14, .ref q15, .null, .null])), (q1, .inl (cy 100, 300, .inl (fun _ => 0))), (q2, .inl (cy 102, 2, .inl (fun _ => 0))), (q3, .inl (cy 100, 4, .inl (fun _ => 0))), (q4, .inl (cy 100, 4, .inl (fun _ => 0))), (q5, .inl (cy 100, 4, .inl (fun _ => 0))), (q6, .inl (cy 100, 40, .inl (fun _ => 0))), (q7, .inl (cy 100, 16, .inl (fun _ => 0))), (q8, .inl (cy 100, 3, .inl (fun _ => 0))), (q9, .inl (cy 100, 3, .inl (fun _ => 0))), (q10, .inl (cy 100, 3, .inl (fun _ => 0))), (q11, .inl (cy 100, 300, .inl (fun _ => 0))), (q12, .inl (cy 100, 12, .inl (fun _ => 0))), (q13, .inl (cy 100, 40, .inl (fun _ => 0))), (q14, .inl (cy 100, 16, .inl (fun _ => 0))), (q15, .inl (cy 100, 8, .inl (fun _ => 0)))] H := hP
  have hD : va_D A [(h0, .inr (7, [.ref q1, .ref q2, .int 0, .ref q3, .ref q4, .ref q5, .int 0, .ref q6, .int 0, .ref q7, .ref q8, .ref q9, .ref q10, .int 0, .ref q11, .int 0, .long 0, .int 0, .int 0, .int 0, .ref q12, .int 0, .ref q13, .int 0, .ref q14, .ref q15, .null, .null])), (q1, .inl (cy 100, 300, .inl (fun _ => 0))), (q2, .inl (cy 102, 2, .inl (fun _ => 0))), (q3, .inl (cy 100, 4, .inl (fun _ => 0))), (q4, .inl (cy 100, 4, .inl (fun _ => 0))), (q5, .inl (cy 100, 4, .inl (fun _ => 0))), (q6, .inl (cy 100, 40, .inl (fun _ => 0))), (q7, .inl (cy 100, 16, .inl (fun _ => 0))), (q8, .inl (cy 100, 3, .inl (fun _ => 0))), (q9, .inl (cy 100, 3, .inl (fun _ => 0))), (q10, .inl (cy 100, 3, .inl (fun _ => 0))), (q11, .inl (cy 100, 300, .inl (fun _ => 0))), (q12, .inl (cy 100, 12, .inl (fun _ => 0))), (q13, .inl (cy 100, 40, .inl (fun _ => 0))), (q14, .inl (cy 100, 16, .inl (fun _ => 0))), (q15, .inl (cy 100, 8, .inl (fun _ => 0)))] := hD
  refine lv_aload_n hx hb id_7_119 rfl (lv_at hl 0 rfl) ?_
  refine lv_bipush (v := 12) hx hb id_7_120 (by decide) ?_
  refine zn_long hx hb (hts _ tm_212) hK hP hD hS hA (N := 12) (by decide) (by decide) (by decide) (Nat.le_of_ble_eq_true rfl) (Nat.le_of_ble_eq_true rfl) id_7_122 (fun q16 H hP hD hS => ?_)
  refine W.widen (k := 16) (n := 767) (by decide) (by decide) ?_
  have hP : va_P D vwCl [(h0, .inr (7, [.ref q1, .ref q2, .int 0, .ref q3, .ref q4, .ref q5, .int 0, .ref q6, .int 0, .ref q7, .ref q8, .ref q9, .ref q10, .int 0, .ref q11, .int 0, .long 0, .int 0, .int 0, .int 0, .ref q12, .int 0, .ref q13, .int 0, .ref q14, .ref q15, .null, .null])), (q1, .inl (cy 100, 300, .inl (fun _ => 0))), (q2, .inl (cy 102, 2, .inl (fun _ => 0))), (q3, .inl (cy 100, 4, .inl (fun _ => 0))), (q4, .inl (cy 100, 4, .inl (fun _ => 0))), (q5, .inl (cy 100, 4, .inl (fun _ => 0))), (q6, .inl (cy 100, 40, .inl (fun _ => 0))), (q7, .inl (cy 100, 16, .inl (fun _ => 0))), (q8, .inl (cy 100, 3, .inl (fun _ => 0))), (q9, .inl (cy 100, 3, .inl (fun _ => 0))), (q10, .inl (cy 100, 3, .inl (fun _ => 0))), (q11, .inl (cy 100, 300, .inl (fun _ => 0))), (q12, .inl (cy 100, 12, .inl (fun _ => 0))), (q13, .inl (cy 100, 40, .inl (fun _ => 0))), (q14, .inl (cy 100, 16, .inl (fun _ => 0))), (q15, .inl (cy 100, 8, .inl (fun _ => 0))), (q16, .inl (cy 103, 12, .inr (.inl (fun _ => 0))))] H := hP
  have hD : va_D A [(h0, .inr (7, [.ref q1, .ref q2, .int 0, .ref q3, .ref q4, .ref q5, .int 0, .ref q6, .int 0, .ref q7, .ref q8, .ref q9, .ref q10, .int 0, .ref q11, .int 0, .long 0, .int 0, .int 0, .int 0, .ref q12, .int 0, .ref q13, .int 0, .ref q14, .ref q15, .null, .null])), (q1, .inl (cy 100, 300, .inl (fun _ => 0))), (q2, .inl (cy 102, 2, .inl (fun _ => 0))), (q3, .inl (cy 100, 4, .inl (fun _ => 0))), (q4, .inl (cy 100, 4, .inl (fun _ => 0))), (q5, .inl (cy 100, 4, .inl (fun _ => 0))), (q6, .inl (cy 100, 40, .inl (fun _ => 0))), (q7, .inl (cy 100, 16, .inl (fun _ => 0))), (q8, .inl (cy 100, 3, .inl (fun _ => 0))), (q9, .inl (cy 100, 3, .inl (fun _ => 0))), (q10, .inl (cy 100, 3, .inl (fun _ => 0))), (q11, .inl (cy 100, 300, .inl (fun _ => 0))), (q12, .inl (cy 100, 12, .inl (fun _ => 0))), (q13, .inl (cy 100, 40, .inl (fun _ => 0))), (q14, .inl (cy 100, 16, .inl (fun _ => 0))), (q15, .inl (cy 100, 8, .inl (fun _ => 0))), (q16, .inl (cy 103, 12, .inr (.inl (fun _ => 0))))] := hD
  refine va_putF hx hb hts (ztIn 7 (by decide)) (tY 7) (tTy 7 (by decide)) (tNm 7 (by decide)) hown hK hP hD hS 0 rfl (tCl 7 (by decide)) 26 (by decide) (hts _ tm_747) (fun _ z => z) rfl hin rfl (tTy 7 (by decide) 26 (by decide)) rfl rfl (Nat.le_of_ble_eq_true rfl) id_7_124 (fun H locs hP hD hS => ?_)
  have hP : va_P D vwCl [(h0, .inr (7, [.ref q1, .ref q2, .int 0, .ref q3, .ref q4, .ref q5, .int 0, .ref q6, .int 0, .ref q7, .ref q8, .ref q9, .ref q10, .int 0, .ref q11, .int 0, .long 0, .int 0, .int 0, .int 0, .ref q12, .int 0, .ref q13, .int 0, .ref q14, .ref q15, .ref q16, .null])), (q1, .inl (cy 100, 300, .inl (fun _ => 0))), (q2, .inl (cy 102, 2, .inl (fun _ => 0))), (q3, .inl (cy 100, 4, .inl (fun _ => 0))), (q4, .inl (cy 100, 4, .inl (fun _ => 0))), (q5, .inl (cy 100, 4, .inl (fun _ => 0))), (q6, .inl (cy 100, 40, .inl (fun _ => 0))), (q7, .inl (cy 100, 16, .inl (fun _ => 0))), (q8, .inl (cy 100, 3, .inl (fun _ => 0))), (q9, .inl (cy 100, 3, .inl (fun _ => 0))), (q10, .inl (cy 100, 3, .inl (fun _ => 0))), (q11, .inl (cy 100, 300, .inl (fun _ => 0))), (q12, .inl (cy 100, 12, .inl (fun _ => 0))), (q13, .inl (cy 100, 40, .inl (fun _ => 0))), (q14, .inl (cy 100, 16, .inl (fun _ => 0))), (q15, .inl (cy 100, 8, .inl (fun _ => 0))), (q16, .inl (cy 103, 12, .inr (.inl (fun _ => 0))))] H := hP
  have hD : va_D A [(h0, .inr (7, [.ref q1, .ref q2, .int 0, .ref q3, .ref q4, .ref q5, .int 0, .ref q6, .int 0, .ref q7, .ref q8, .ref q9, .ref q10, .int 0, .ref q11, .int 0, .long 0, .int 0, .int 0, .int 0, .ref q12, .int 0, .ref q13, .int 0, .ref q14, .ref q15, .ref q16, .null])), (q1, .inl (cy 100, 300, .inl (fun _ => 0))), (q2, .inl (cy 102, 2, .inl (fun _ => 0))), (q3, .inl (cy 100, 4, .inl (fun _ => 0))), (q4, .inl (cy 100, 4, .inl (fun _ => 0))), (q5, .inl (cy 100, 4, .inl (fun _ => 0))), (q6, .inl (cy 100, 40, .inl (fun _ => 0))), (q7, .inl (cy 100, 16, .inl (fun _ => 0))), (q8, .inl (cy 100, 3, .inl (fun _ => 0))), (q9, .inl (cy 100, 3, .inl (fun _ => 0))), (q10, .inl (cy 100, 3, .inl (fun _ => 0))), (q11, .inl (cy 100, 300, .inl (fun _ => 0))), (q12, .inl (cy 100, 12, .inl (fun _ => 0))), (q13, .inl (cy 100, 40, .inl (fun _ => 0))), (q14, .inl (cy 100, 16, .inl (fun _ => 0))), (q15, .inl (cy 100, 8, .inl (fun _ => 0))), (q16, .inl (cy 103, 12, .inr (.inl (fun _ => 0))))] := hD
  refine lv_aload_n hx hb id_7_127 rfl (lv_at hl 0 rfl) ?_
  refine lv_bipush (v := 12) hx hb id_7_128 (by decide) ?_
  refine zn_long hx hb (hts _ tm_212) hK hP hD hS hA (N := 12) (by decide) (by decide) (by decide) (Nat.le_of_ble_eq_true rfl) (Nat.le_of_ble_eq_true rfl) id_7_130 (fun q17 H hP hD hS => ?_)
  refine W.widen (k := 17) (n := 779) (by decide) (by decide) ?_
  have hP : va_P D vwCl [(h0, .inr (7, [.ref q1, .ref q2, .int 0, .ref q3, .ref q4, .ref q5, .int 0, .ref q6, .int 0, .ref q7, .ref q8, .ref q9, .ref q10, .int 0, .ref q11, .int 0, .long 0, .int 0, .int 0, .int 0, .ref q12, .int 0, .ref q13, .int 0, .ref q14, .ref q15, .ref q16, .null])), (q1, .inl (cy 100, 300, .inl (fun _ => 0))), (q2, .inl (cy 102, 2, .inl (fun _ => 0))), (q3, .inl (cy 100, 4, .inl (fun _ => 0))), (q4, .inl (cy 100, 4, .inl (fun _ => 0))), (q5, .inl (cy 100, 4, .inl (fun _ => 0))), (q6, .inl (cy 100, 40, .inl (fun _ => 0))), (q7, .inl (cy 100, 16, .inl (fun _ => 0))), (q8, .inl (cy 100, 3, .inl (fun _ => 0))), (q9, .inl (cy 100, 3, .inl (fun _ => 0))), (q10, .inl (cy 100, 3, .inl (fun _ => 0))), (q11, .inl (cy 100, 300, .inl (fun _ => 0))), (q12, .inl (cy 100, 12, .inl (fun _ => 0))), (q13, .inl (cy 100, 40, .inl (fun _ => 0))), (q14, .inl (cy 100, 16, .inl (fun _ => 0))), (q15, .inl (cy 100, 8, .inl (fun _ => 0))), (q16, .inl (cy 103, 12, .inr (.inl (fun _ => 0)))), (q17, .inl (cy 103, 12, .inr (.inl (fun _ => 0))))] H := hP
  have hD : va_D A [(h0, .inr (7, [.ref q1, .ref q2, .int 0, .ref q3, .ref q4, .ref q5, .int 0, .ref q6, .int 0, .ref q7, .ref q8, .ref q9, .ref q10, .int 0, .ref q11, .int 0, .long 0, .int 0, .int 0, .int 0, .ref q12, .int 0, .ref q13, .int 0, .ref q14, .ref q15, .ref q16, .null])), (q1, .inl (cy 100, 300, .inl (fun _ => 0))), (q2, .inl (cy 102, 2, .inl (fun _ => 0))), (q3, .inl (cy 100, 4, .inl (fun _ => 0))), (q4, .inl (cy 100, 4, .inl (fun _ => 0))), (q5, .inl (cy 100, 4, .inl (fun _ => 0))), (q6, .inl (cy 100, 40, .inl (fun _ => 0))), (q7, .inl (cy 100, 16, .inl (fun _ => 0))), (q8, .inl (cy 100, 3, .inl (fun _ => 0))), (q9, .inl (cy 100, 3, .inl (fun _ => 0))), (q10, .inl (cy 100, 3, .inl (fun _ => 0))), (q11, .inl (cy 100, 300, .inl (fun _ => 0))), (q12, .inl (cy 100, 12, .inl (fun _ => 0))), (q13, .inl (cy 100, 40, .inl (fun _ => 0))), (q14, .inl (cy 100, 16, .inl (fun _ => 0))), (q15, .inl (cy 100, 8, .inl (fun _ => 0))), (q16, .inl (cy 103, 12, .inr (.inl (fun _ => 0)))), (q17, .inl (cy 103, 12, .inr (.inl (fun _ => 0))))] := hD
  refine va_putF hx hb hts (ztIn 7 (by decide)) (tY 7) (tTy 7 (by decide)) (tNm 7 (by decide)) hown hK hP hD hS 0 rfl (tCl 7 (by decide)) 27 (by decide) (hts _ tm_748) (fun _ z => z) rfl hin rfl (tTy 7 (by decide) 27 (by decide)) rfl rfl (Nat.le_of_ble_eq_true rfl) id_7_132 (fun H locs hP hD hS => ?_)
  have hP : va_P D vwCl [(h0, .inr (7, [.ref q1, .ref q2, .int 0, .ref q3, .ref q4, .ref q5, .int 0, .ref q6, .int 0, .ref q7, .ref q8, .ref q9, .ref q10, .int 0, .ref q11, .int 0, .long 0, .int 0, .int 0, .int 0, .ref q12, .int 0, .ref q13, .int 0, .ref q14, .ref q15, .ref q16, .ref q17])), (q1, .inl (cy 100, 300, .inl (fun _ => 0))), (q2, .inl (cy 102, 2, .inl (fun _ => 0))), (q3, .inl (cy 100, 4, .inl (fun _ => 0))), (q4, .inl (cy 100, 4, .inl (fun _ => 0))), (q5, .inl (cy 100, 4, .inl (fun _ => 0))), (q6, .inl (cy 100, 40, .inl (fun _ => 0))), (q7, .inl (cy 100, 16, .inl (fun _ => 0))), (q8, .inl (cy 100, 3, .inl (fun _ => 0))), (q9, .inl (cy 100, 3, .inl (fun _ => 0))), (q10, .inl (cy 100, 3, .inl (fun _ => 0))), (q11, .inl (cy 100, 300, .inl (fun _ => 0))), (q12, .inl (cy 100, 12, .inl (fun _ => 0))), (q13, .inl (cy 100, 40, .inl (fun _ => 0))), (q14, .inl (cy 100, 16, .inl (fun _ => 0))), (q15, .inl (cy 100, 8, .inl (fun _ => 0))), (q16, .inl (cy 103, 12, .inr (.inl (fun _ => 0)))), (q17, .inl (cy 103, 12, .inr (.inl (fun _ => 0))))] H := hP
  have hD : va_D A [(h0, .inr (7, [.ref q1, .ref q2, .int 0, .ref q3, .ref q4, .ref q5, .int 0, .ref q6, .int 0, .ref q7, .ref q8, .ref q9, .ref q10, .int 0, .ref q11, .int 0, .long 0, .int 0, .int 0, .int 0, .ref q12, .int 0, .ref q13, .int 0, .ref q14, .ref q15, .ref q16, .ref q17])), (q1, .inl (cy 100, 300, .inl (fun _ => 0))), (q2, .inl (cy 102, 2, .inl (fun _ => 0))), (q3, .inl (cy 100, 4, .inl (fun _ => 0))), (q4, .inl (cy 100, 4, .inl (fun _ => 0))), (q5, .inl (cy 100, 4, .inl (fun _ => 0))), (q6, .inl (cy 100, 40, .inl (fun _ => 0))), (q7, .inl (cy 100, 16, .inl (fun _ => 0))), (q8, .inl (cy 100, 3, .inl (fun _ => 0))), (q9, .inl (cy 100, 3, .inl (fun _ => 0))), (q10, .inl (cy 100, 3, .inl (fun _ => 0))), (q11, .inl (cy 100, 300, .inl (fun _ => 0))), (q12, .inl (cy 100, 12, .inl (fun _ => 0))), (q13, .inl (cy 100, 40, .inl (fun _ => 0))), (q14, .inl (cy 100, 16, .inl (fun _ => 0))), (q15, .inl (cy 100, 8, .inl (fun _ => 0))), (q16, .inl (cy 103, 12, .inr (.inl (fun _ => 0)))), (q17, .inl (cy 103, 12, .inr (.inl (fun _ => 0))))] := hD
  exact W.vret hx hb hr (fun t ht hW => ⟨⟨(fun j => [h0, q1, q2, q3, q4, q5, q6, q7, q8, q9, q10, q11, q12, q13, q14, q15, q16, q17].getD j 0, fun _ => -1), rfl, ⟨rfl, fun _ _ => rfl⟩, by rw [ht]; exact hP, hD⟩, hS.F ht⟩) hS.2.2 id_7_135
