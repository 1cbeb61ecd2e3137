theorem tm_1 : Jvm.Cond.initialized "SleeveSlips" ∈ ztb := zin (List.mem_append_right _ (List.mem_of_getElem? (i := 1) (by decide +kernel))) rfl
theorem tm_9 : Jvm.Cond.initialized "SleeveSlipsModel" ∈ ztb := zin (List.mem_append_right _ (List.mem_of_getElem? (i := 9) (by decide +kernel))) rfl
theorem tm_17 : Jvm.Cond.classLink "SleeveSlipsLaw" (7 : Nat) "SleeveSlips" ∈ ztb := zin (List.mem_append_right _ (List.mem_of_getElem? (i := 17) (by decide +kernel))) rfl
theorem tm_18 : Jvm.Cond.instantiable "SleeveSlips" (10 : Nat) ∈ ztb := zin (List.mem_append_right _ (List.mem_of_getElem? (i := 18) (by decide +kernel))) rfl
theorem tm_19 : Jvm.Cond.methodLink "SleeveSlipsLaw" (9 : Nat) ({ cls := "SleeveSlips", name := "<init>", desc := "()V" } : Jvm.MethodName) ∈ ztb := zin (List.mem_append_right _ (List.mem_of_getElem? (i := 19) (by decide +kernel))) rfl
theorem tm_20 : Jvm.Cond.instanceMethod ({ cls := "SleeveSlips", name := "<init>", desc := "()V" } : Jvm.MethodName) ∈ ztb := zin (List.mem_append_right _ (List.mem_of_getElem? (i := 20) (by decide +kernel))) rfl
theorem tm_715 : Jvm.Cond.classLink "SleeveSlipsLaw" (10 : Nat) "SleeveSlipsModel" ∈ ztb := zin (List.mem_append_right _ (List.mem_of_getElem? (i := 715) (by decide +kernel))) rfl
theorem tm_716 : Jvm.Cond.instantiable "SleeveSlipsModel" (28 : Nat) ∈ ztb := zin (List.mem_append_right _ (List.mem_of_getElem? (i := 716) (by decide +kernel))) rfl
theorem tm_717 : Jvm.Cond.methodLink "SleeveSlipsLaw" (12 : Nat) ({ cls := "SleeveSlipsModel", name := "<init>", desc := "()V" } : Jvm.MethodName) ∈ ztb := zin (List.mem_append_right _ (List.mem_of_getElem? (i := 717) (by decide +kernel))) rfl
theorem tm_718 : Jvm.Cond.instanceMethod ({ cls := "SleeveSlipsModel", name := "<init>", desc := "()V" } : Jvm.MethodName) ∈ ztb := zin (List.mem_append_right _ (List.mem_of_getElem? (i := 718) (by decide +kernel))) rfl
theorem d_law_0 : decode code 0 = .ok (.new 7, 3) := by decide +kernel
theorem d_law_3 : decode code 3 = .ok (.dup, 1) := by decide +kernel
theorem d_law_4 : decode code 4 = .ok (.invokespecial 9, 3) := by decide +kernel
theorem d_law_7 : decode code 7 = .ok (.astore_n 1, 1) := by decide +kernel
theorem d_law_8 : decode code 8 = .ok (.new 10, 3) := by decide +kernel
theorem d_law_11 : decode code 11 = .ok (.dup, 1) := by decide +kernel
theorem d_law_12 : decode code 12 = .ok (.invokespecial 12, 3) := by decide +kernel
theorem d_law_15 : decode code 15 = .ok (.astore_n 2, 1) := by decide +kernel
theorem d_law_16 : decode code 16 = .ok (.iconst 0, 1) := by decide +kernel
theorem d_law_17 : decode code 17 = .ok (.istore_n 3, 1) := by decide +kernel
set_option maxHeartbeats 8000000 in
set_option maxRecDepth 100000 in
/-- THE LAW, from its entry -/
theorem whole_start {p : Program} {e : Env} {s : State} {m : MethodId} {below : List Frame} {meth : Method} {c : Code} (l : Launch) {b L : Nat} {xs : Nat → Int32} (hL : L ≤ 2560) (C0 : lw_At p s m meth c b L xs) : W p l e room_1 s m #[Value.ref b] below meth c s.heap [] 0 0 (lw_Z below #[Value.ref b] s) (entryFrame m ([Value.ref b] : List Value).toArray 4) := by
  obtain ⟨hx, hb, hr, hml, hown, hts, hX, hbl, hlocks, hgv⟩ := id C0
  have htz : ∀ w ∈ ztb, w.before #[Value.ref b] s = true := fun w hw => hts w (List.mem_filter.mp hw).1
  obtain ⟨D, cy, hK, hN⟩ := st_K hts
  obtain ⟨adK, hadX⟩ := st_X hts hgv
  obtain ⟨A, hAe⟩ : ∃ A : Nat → Prop, A = fun q => s.heap.size ≤ q := ⟨_, rfl⟩
  have hA : ∀ q, s.heap.size ≤ q → A q := fun q h => by rw [hAe]; exact h
  have hA2 : ∀ q, A q → s.heap.size ≤ q := fun q h => by rw [hAe] at h; exact h
  have hS : va_S A s.heap s.heap [] := va_S.rf
  have hP : va_P D vwCl [] s.heap := fun k q h => by simp at h
  have hD : va_D A [] := ⟨fun i j p q h => by simp at h, fun k q h => by simp at h⟩
  have hl := lv_entry ([.ref b]) (n := 4) (Nat.le_of_ble_eq_true rfl)
  rw [lg_entry_eq]
  generalize (lg_sl ([.ref b] : List Value) ++ List.replicate (4 - (lg_sl ([.ref b] : List Value)).length) Slot.unset).toArray = ls at hl ⊢
  have hl : lv_has ls 4 [(0, .ref b)] := hl
  refine va_new (ci := 6) (fs := [.null, .null, .null, .null, .null, .null, .null, .null, .null, .long 0]) hx hb htz (ztIn 6 (by decide)) (tY 6) (tTy 6 (by decide)) hown (htz _ tm_17) (htz _ tm_18) (htz _ tm_1) hK hP hD hS hA (tCl 6 (by decide)) (fun j hj => dfl_6 j hj) (Nat.le_of_ble_eq_true rfl) (Nat.le_of_ble_eq_true rfl) d_law_0 (fun q0 H hP hD hS => ?_)
  refine W.widen (k := 1) (n := 10) (by decide) (by decide) ?_
  refine lv_dup hx hb d_law_3 rfl ?_
  have hPc : va_P D vwCl (iD_6 q0) H := zw_lastP hP
  have hDc : va_D A (iD_6 q0) := zw_lastD hD
  have hFc : ∀ z, va_A (iD_6 q0) H.size z → A z := zw_free hD hS hA
  refine va_callv (va_runI (As := []) (rest := [.ref q0]) ⟨hx, hb, hml, hown, htz⟩ (i_6 l cy D q0 H.size) (cwI 0 htz (zgood_in (fun w hw => ii_6 w hw)) rfl rfl rfl (htz _ tm_1) (htz _ tm_19) (htz _ tm_20) rfl (by decide +kernel) ⟨Nat.le_of_ble_eq_true rfl, Nat.le_of_ble_eq_true rfl⟩) ⟨fun a U g mk q => by obtain ⟨q0, q1, qP, qK, qD, qN⟩ := q; exact ⟨q0, q1, qP, va_K.moved (u := U) (U := U.calling g mk a) (Vm.Alike.refl U.vm) qK, qD, zNs.same (s := U) (U := U.calling g mk a) rfl qN⟩, fun U hU hW => ⟨rfl, by rw [hU], by rw [hU]; exact hPc, va_K.moved hW.alike hK, hDc.weaken (fun _ _ _ _ => trivial), hN.warm hW⟩⟩ rfl rfl hl.1 rfl (lv_room (Nat.le_of_ble_eq_true rfl)) d_law_4 ⟨Nat.le_of_ble_eq_true rfl, Nat.le_of_ble_eq_true rfl⟩) hS (fun q _ h => hFc q h) hFc (fun u t H1 locs ht hvm hw hB hz1 hk1 hS => ?_)
  obtain ⟨hP1, hD1⟩ := hB
  rw [ht] at hP1
  obtain ⟨hP, hD⟩ := zw_join (w1 := iW_6 cy q0 u) hP hD hk1 hFc hP1 hD1
  generalize H1 = H at hP hS ⊢
  refine W.widen (k := 64) (n := 912) (by decide) (by decide) ?_
  refine lv_astore_n (lv' := [(1, .ref q0), (0, .ref b)]) hx hb d_law_7 rfl hl (by decide) rfl (fun ls hl => ?_)
  refine va_new (ci := 7) (fs := [.null, .null, .int 0, .null, .null, .null, .int 0, .null, .int 0, .null, .null, .null, .null, .int 0, .null, .int 0, .long 0, .int 0, .int 0, .int 0, .null, .int 0, .null, .int 0, .null, .null, .null, .null]) hx hb htz (ztIn 7 (by decide)) (tY 7) (tTy 7 (by decide)) hown (htz _ tm_715) (htz _ tm_716) (htz _ tm_9) hK hP hD hS hA (tCl 7 (by decide)) (fun j hj => dfl_7 j hj) (Nat.le_of_ble_eq_true rfl) (Nat.le_of_ble_eq_true rfl) d_law_8 (fun q1 H hP hD hS => ?_)
  refine W.widen (k := 65) (n := 940) (by decide) (by decide) ?_
  refine lv_dup hx hb d_law_11 rfl ?_
  have hPc : va_P D vwCl (iD_7 q1) H := zw_lastP hP
  have hDc : va_D A (iD_7 q1) := zw_lastD hD
  have hFc : ∀ z, va_A (iD_7 q1) H.size z → A z := zw_free hD hS hA
  refine va_callv (va_runI (As := []) (rest := [.ref q1]) ⟨hx, hb, hml, hown, htz⟩ (i_7 l cy D q1 H.size) (cwI 0 htz (zgood_in (fun w hw => ii_7 w hw)) rfl rfl rfl (htz _ tm_9) (htz _ tm_717) (htz _ tm_718) rfl (by decide +kernel) ⟨Nat.le_of_ble_eq_true rfl, Nat.le_of_ble_eq_true rfl⟩) ⟨fun a U g mk q => by obtain ⟨q0, q1, qP, qK, qD⟩ := q; exact ⟨q0, q1, qP, va_K.moved (u := U) (U := U.calling g mk a) (Vm.Alike.refl U.vm) qK, qD⟩, fun U hU hW => ⟨rfl, by rw [hU], by rw [hU]; exact hPc, va_K.moved hW.alike hK, hDc.weaken (fun _ _ _ _ => trivial)⟩⟩ rfl rfl hl.1 rfl (lv_room (Nat.le_of_ble_eq_true rfl)) d_law_12 ⟨Nat.le_of_ble_eq_true rfl, Nat.le_of_ble_eq_true rfl⟩) hS (fun q _ h => hFc q h) hFc (fun v t H1 locs ht hvm hw7 hB hz1 hk1 hS => ?_)
  obtain ⟨hP1, hD1⟩ := hB
  rw [ht] at hP1
  obtain ⟨ev, -⟩ := hw7
  subst ev
  obtain ⟨hP, hD⟩ := zw_join (w1 := iW_7 cy v) hP hD hk1 hFc hP1 hD1
  generalize H1 = H at hP hS ⊢
  have hP : va_P D vwCl (iW_6 cy q0 u ++ iW_7 cy v) H := hP
  have hD : va_D A (iW_6 cy q0 u ++ iW_7 cy v) := hD
  refine lv_astore_n (lv' := [(2, .ref (v.1 0)), (1, .ref q0), (0, .ref b)]) hx hb d_law_15 rfl hl (by decide) rfl (fun ls hl => ?_)
  refine lv_iconst (v := 0) hx hb d_law_16 (by decide) ?_
  refine lv_istore_n (lv' := [(3, .int 0), (2, .ref (v.1 0)), (1, .ref q0), (0, .ref b)]) hx hb d_law_17 rfl hl (by decide) rfl (fun ls hl => ?_)
  refine W.widen (k := 600000) (n := 7302250) (Nat.le_of_ble_eq_true rfl) (Nat.le_of_ble_eq_true rfl) ?_
  obtain ⟨d1, d2⟩ := st_D (b := b) (adK := adK) hD
  have ha : lw_ad s b (ad0 q0 u v b adK) := by
    refine ⟨rfl, fun c hc => hA2 _ (d1 c hc), d2, hadX _ (fun i => ?_)⟩
    unfold ad0
    rw [if_neg (by omega), if_neg (by omega), Nat.add_sub_cancel_left]
  have hS2 : va_S (zA (ad0 q0 u v b adK) s.heap.size) s.heap H locs := ⟨hS.1, fun q h1 h2 => hS.2.1 q h1 (fun z => h2 (Or.inr (hA2 q z))), fun q hq => Or.inr (hA2 _ (hS.2.2 q hq))⟩
  exact law_go l hL C0 hK (L + 1) 0 S0 (s0 (u.1 4).2 (u.1 5).2 (u.1 6).2) (ad0 q0 u v b adK) (by omega) (Nat.zero_le _) ha WfS0 (Gc0 hw.1) Gm0 ls H locs (lv_sub hl [3, 2, 1, 0] rfl) (st_P hP) hS2
