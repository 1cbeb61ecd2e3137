theorem zw_nat : Cond.native arraycopyName ∈ ztb := zin (List.mem_append_right _ (List.mem_of_getElem? (i := 448) rfl)) rfl
theorem zw_stat : Cond.static arraycopyName ∈ ztb := zin (List.mem_append_right _ (List.mem_of_getElem? (i := 447) rfl)) rfl
theorem zw_sys : Cond.initialized "java/lang/System" ∈ ztb := zin (List.mem_append_right _ (List.mem_of_getElem? (i := 15) rfl)) rfl
theorem zw_math : Cond.initialized "java/lang/Math" ∈ ztb := zin (List.mem_append_right _ (List.mem_of_getElem? (i := 10) rfl)) rfl
set_option maxRecDepth 20000 in
theorem zw_min_s : Cond.static Lib.Math.min.name ∈ ztb := zin (List.mem_append_right _ (List.mem_of_getElem? (i := 310) rfl)) rfl
set_option maxRecDepth 20000 in
theorem zw_min_c : Cond.code Lib.Math.min.name Lib.Math.min.code 2 (some .int) ∈ ztb := zin (List.mem_append_right _ (List.mem_of_getElem? (i := 311) rfl)) rfl
set_option maxRecDepth 20000 in
theorem zw_max_s : Cond.static Lib.Math.max.name ∈ ztb := zin (List.mem_append_right _ (List.mem_of_getElem? (i := 658) rfl)) rfl
set_option maxRecDepth 20000 in
theorem zw_max_c : Cond.code Lib.Math.max.name Lib.Math.max.code 2 (some .int) ∈ ztb := zin (List.mem_append_right _ (List.mem_of_getElem? (i := 659) rfl)) rfl
set_option maxRecDepth 20000 in
theorem zw_maxl_s : Cond.static Lib.MathLoose.max_long.x ∈ ztb := zin (List.mem_append_right _ (List.mem_of_getElem? (i := 597) rfl)) rfl
set_option maxRecDepth 20000 in
theorem zw_maxl_c : Cond.code Lib.MathLoose.max_long.x Lib.MathLoose.max_long.code 4 (some .long) ∈ ztb := zin (List.mem_append_right _ (List.mem_of_getElem? (i := 598) rfl)) rfl
theorem zlen_of {i : Instr} {len k : Nat} (h : (decide (zlen i = 0) || decide (zlen i = len)) = true) (hk : zlen i = k + 1) : len = k + 1 := by
  rw [hk] at h
  simp at h
  exact h.symm
theorem zcallW {p : Program} {l : Launch} {e : Env} {R : Room} {s : State} {m : MethodId} {args : Array Value} {below : List Frame} {meth : Method} {c : Code} {H : Heap} {locs : List Loc} {cells slots : Nat} {Q : State → Prop} {pc : Nat} {ls : Array Slot} {rest st0 : List Value} {A0 : Nat → Prop} {H0 : Heap} {ad : Nat → Nat} {cy : Nat → ClassId} {D : va_G} {sz : Nat} {rv : Option Value} {σ' : zSt} {a : Array Value}
    (hr : va_Run p l e R s m args below meth c H locs cells slots 0 0 (F0 m pc ls st0) rest (zPost ad cy D sz rv σ' a) (zA ad sz)) (hS : va_S A0 H0 H locs) (hA : ∀ q, zA ad sz q → A0 q)
    (kk : ∀ (H1 : Heap) (locs1 : List Loc), va_P D vwCl (zwl ad cy σ') H1 → va_S A0 H0 H1 locs1 → W p l e R s m args below meth c H1 locs1 cells slots Q (F0 m (pc + 3) ls ((rv.map (zcv ad)).toList ++ rest))) : W p l e R s m args below meth c H locs cells slots Q (F0 m pc ls st0) := by
  intro T hT X
  obtain ⟨v, st₀, t, T', L, h0, X', hL, e1, e2, ⟨⟨hv, hp⟩, hz, hk⟩, st⟩ := hr T hT X
  cases hv
  rw [h0] at hz hk
  obtain ⟨t2, a1, b1⟩ := kk T'.heap (locs ++ L) (by rw [e1]; exact hp) ⟨Nat.le_trans hS.1 (by rw [e1]; exact hz), fun q h1 h2 => by rw [e1, hk q (Nat.lt_of_lt_of_le h1 hS.1) (fun z => h2 (hA q z))]; exact hS.2.1 q h1 h2, fun q hq => by
      rcases List.mem_append.mp hq with h | h
      · exact hS.2.2 q h
      · exact hA _ (hL q h)⟩ T' rfl X'
  exact ⟨t2, st t2 a1, b1⟩
/-- what a return needs -/
def zret (M pc : Nat) (rv : Option Value) : Prop := match rv with
  | some (.int x) => decode (mC M) pc = .ok (.ireturn, 1) ∧ (mR M = some .int ∨ (mR M = some .boolean ∧ (x = 0 ∨ x = 1)))
  | some (.long _) => decode (mC M) pc = .ok (.lreturn, 1) ∧ mR M = some .long
  | none => decode (mC M) pc = .ok (.return_, 1) ∧ mR M = none
  | _ => False
theorem zgood_in {ws : List Cond} (h : ∀ w ∈ ws, w ∈ ztb) : GoodIn ztb ws := fun w hw => ⟨h w hw, good_of_word (List.mem_filter.mp (h w hw)).2⟩
theorem zws_in {m : Nat} (h : m < 150) : ∀ w ∈ zws m, w ∈ ztb := by
  intro w hw
  rcases List.mem_cons.mp hw with rfl | hw
  · exact zin (zfs m h).1 rfl
  · exact hw
theorem zmapr (ad : Nat → Nat) (as r : List Value) : (as.reverse ++ r).map (zcv ad) = (as.map (zcv ad)).reverse ++ r.map (zcv ad) := by simp
theorem zrm_cv {ad : Nat → Nat} {r : List Value} (h : zrm r) : ((r.map (zcv ad)).map fun v => v.category).sum ≤ 8 := by
  unfold zrm at h
  rw [List.map_map]
  have e : ((fun v : Value => v.category) ∘ zcv ad) = fun v : Value => v.category := by
    funext v
    exact zcv_cat ad v
  rw [e]
  exact h
theorem zsw_tab {x : Int32} {F : Nat → Prop} {d : Nat} : ∀ {ts : List (Int32 × Nat)}, zsw x F d ts → (∀ (j : Nat) (q : Int32 × Nat), ts[j]? = some q → (∀ (i : Nat) (q' : Int32 × Nat), i < j → ts[i]? = some q' → ¬ x = q'.1) → x = q.1 → F q.2) ∧ ((∀ q ∈ ts, ¬ x = q.1) → F d)
  | [], h => ⟨fun j q hj => by simp at hj, fun _ => h⟩
  | t :: ts, h => by
    unfold zsw at h
    refine ⟨fun j q hj hn he => ?_, fun hn => ?_⟩
    · cases j with
      | zero =>
        cases hj
        exact h.1 he
      | succ j =>
        have hne : ¬ x = t.1 := hn 0 t (Nat.succ_pos j) rfl
        exact (zsw_tab (h.2 hne)).1 j q hj (fun i q' hi hq => hn (i + 1) q' (Nat.succ_lt_succ hi) hq) he
    · exact (zsw_tab (h.2 (hn t List.mem_cons_self))).2 (fun q hq => hn q (List.mem_cons_of_mem _ hq))
section ZSTEP
variable {p : Program} {l : Launch} {e : Env} {R rm : Room} {s : State} {m : MethodId} {args : Array Value} {below : List Frame} {meth : Method} {c : Code} {H : Heap} {locs : List Loc} {cells slots : Nat} {Qm : State → Prop}
variable {E : zEr} {SC : zSc} {M : Nat} {Q : Option Value → zSt → Prop} {K : zKc} {ad : Nat → Nat} {cy : Nat → ClassId} {D : va_G}
/-- what stands for a whole walk -/
def zCtx (p : Program) (l : Launch) (R rm : Room) (s : State) (m : MethodId) (args : Array Value) (c : Code) (cells slots : Nat) (E : zEr) (SC : zSc) (M : Nat) (ad : Nat → Nat) (cy : Nat → ClassId) (D : va_G) : Prop :=
  p.tables.exec = Jvm.exec ∧ c.code = mC M ∧ c.maxLocals = mL M ∧ s.vm.findClass (mY M).cls = some m.cls ∧ (∀ w ∈ ztb, w.before args s = true) ∧ va_K D vwCl (ztys cy) s ∧ zDj (zA ad s.heap.size) ad ∧ zX ad (zA ad s.heap.size) s s.heap ∧
  (SC.1 = 1 → va_X (ad 1000) SC.2.1 SC.2.2 s s.heap ∧ ad 1000 < s.heap.size ∧ ¬ zA ad s.heap.size (ad 1000)) ∧
  (∀ m as σ r σ' sz', E m as σ r σ' → Met l (mY m) (zws m) rm (zPre ad cy D sz' as σ) (zPost ad cy D sz' r σ') 0 0 (zA ad sz')) ∧
  (rm.cells = 0 ∧ rm.slots = 0 ∧ rm.frames + 1 ≤ R.frames ∧ rm.locals + 35 ≤ R.locals) ∧ (cells ≤ R.cells ∧ slots ≤ R.slots)
abbrev zGo (p : Program) (l : Launch) (e : Env) (R : Room) (s : State) (m : MethodId) (args : Array Value) (below : List Frame) (meth : Method) (c : Code) (cells slots : Nat) (Qm : State → Prop) (M : Nat) (ad : Nat → Nat) (cy : Nat → ClassId) (D : va_G) (pc : Nat) (lv : zLv) (st : List Value) (σ : zSt) : Prop :=
  ∀ (ls : Array Slot) (H : Heap) (locs : List Loc), lv_has ls (mL M) (zcl ad lv) → va_P D vwCl (zwl ad cy σ) H → va_S (zA ad s.heap.size) s.heap H locs → W p l e R s m args below meth c H locs cells slots Qm (F0 m pc ls (st.map (zcv ad)))
set_option maxHeartbeats 8000000 in
set_option maxRecDepth 100000 in
theorem zstep (C : zCtx p l R rm s m args c cells slots E SC M ad cy D) {pc : Nat} {lv : zLv} {st : List Value} {σ : zSt} {w : zIn} (hw : zok M (pc, w) = true) (h : zex E SC Q K w pc lv st σ)
    (kK : ∀ pc' lv' st' σ', K pc' lv' st' σ' → zGo p l e R s m args below meth c cells slots Qm M ad cy D pc' lv' st' σ')
    (kQ : ∀ rv σ' pc', Q rv σ' → zret M pc' rv → ∀ lv', zGo p l e R s m args below meth c cells slots Qm M ad cy D pc' lv' rv.toList σ') :
    zGo p l e R s m args below meth c cells slots Qm M ad cy D pc lv st σ := by
  obtain ⟨hx, hb, hml, hown, hts, hK, hDj, hX, hSC, hE, hrm, hcs⟩ := C
  obtain ⟨i, len, a, b, n, v, ts⟩ := w
  unfold zok at hw
  simp only [Bool.and_eq_true] at hw
  obtain ⟨⟨hd0, hln⟩, hc⟩ := hw
  have hd := of_decide_eq_true hd0
  clear hd0
  intro ls H locs hl hP hS
  have hD : va_D (zA ad s.heap.size) (zwl ad cy σ) := hDj.D
  unfold zex at h
  cases i
  all_goals (try dsimp only at h)
  all_goals (try dsimp only at hc)
  case iconst z =>
    cases zlen_of hln (k := 0) rfl
    exact lv_iconst hx hb hd rfl (kK _ _ _ _ h _ _ _ hl hP hS)
  case bipush z =>
    cases zlen_of hln (k := 1) rfl
    exact lv_bipush hx hb hd rfl (kK _ _ _ _ h _ _ _ hl hP hS)
  case sipush z =>
    cases zlen_of hln (k := 2) rfl
    exact lv_sipush hx hb hd rfl (kK _ _ _ _ h _ _ _ hl hP hS)
  case lconst z =>
    cases zlen_of hln (k := 0) rfl
    exact lv_lconst hx hb hd rfl (kK _ _ _ _ h _ _ _ hl hP hS)
  case ldc_w z =>
    cases zlen_of hln (k := 2) rfl
    exact lv_ldcw hx hb hown (hts _ (zlk_in _ (List.mem_of_getElem? (of_decide_eq_true hc)))) hd (kK _ _ _ _ h _ _ _ hl hP hS)
  case ldc2_w z =>
    cases zlen_of hln (k := 2) rfl
    exact lv_ldc2 hx hb hown (hts _ (zlk_in _ (List.mem_of_getElem? (of_decide_eq_true hc)))) hd (kK _ _ _ _ h _ _ _ hl hP hS)
  case ldc z =>
    cases zlen_of hln (k := 1) rfl
    cases a with
    | zero => exact lv_ldc hx hb hown (hts _ (zlk_in _ (List.mem_of_getElem? (of_decide_eq_true hc)))) hd (kK _ _ _ _ h _ _ _ hl hP hS)
    | succ a =>
      simp only [Bool.and_eq_true, decide_eq_true_eq] at hc
      obtain ⟨⟨h1, rfl⟩, h3⟩ := hc
      exact va_ldcS hx hb hown (by rw [h3]; exact hX.2.1 b h1) hd (kK _ _ _ _ h _ _ _ hl hP hS)
  case iload_n z =>
    cases zlen_of hln (k := 0) rfl
    have h00 := zldI_e h
    clear h
    obtain ⟨x, h1, h⟩ := h00
    exact lv_iload_n hx hb hd rfl (zhas_at hl h1) (kK _ _ _ _ h _ _ _ hl hP hS)
  case iload z =>
    cases zlen_of hln (k := 1) rfl
    have h00 := zldI_e h
    clear h
    obtain ⟨x, h1, h⟩ := h00
    exact lv_iload hx hb hd (zhas_at hl h1) (kK _ _ _ _ h _ _ _ hl hP hS)
  case lload_n z =>
    cases zlen_of hln (k := 0) rfl
    have h00 := zldJ_e h
    clear h
    obtain ⟨x, h1, h⟩ := h00
    exact lv_lload_n hx hb hd rfl (zhas_at hl h1) (kK _ _ _ _ h _ _ _ hl hP hS)
  case lload z =>
    cases zlen_of hln (k := 1) rfl
    have h00 := zldJ_e h
    clear h
    obtain ⟨x, h1, h⟩ := h00
    exact lv_lload hx hb hd (zhas_at hl h1) (kK _ _ _ _ h _ _ _ hl hP hS)
  case aload_n z =>
    cases zlen_of hln (k := 0) rfl
    have h00 := zldR_e h
    clear h
    obtain ⟨x, h1, h⟩ := h00
    exact lv_aload_n hx hb hd rfl (zhas_at hl h1) (kK _ _ _ _ h _ _ _ hl hP hS)
  case aload z =>
    cases zlen_of hln (k := 1) rfl
    have h00 := zldR_e h
    clear h
    obtain ⟨x, h1, h⟩ := h00
    exact lv_aload hx hb hd (zhas_at hl h1) (kK _ _ _ _ h _ _ _ hl hP hS)
  case istore_n z =>
    cases zlen_of hln (k := 0) rfl
    have h00 := zpI_e h
    clear h
    obtain ⟨x, r, rfl, h⟩ := h00
    exact lv_istore_n hx hb hd rfl hl (of_decide_eq_true hc) rfl (fun ls9 hl9 => kK _ _ _ _ h _ _ _ (zhas_s1 hl9) hP hS)
  case istore z =>
    cases zlen_of hln (k := 1) rfl
    have h00 := zpI_e h
    clear h
    obtain ⟨x, r, rfl, h⟩ := h00
    exact lv_istore hx hb hd hl (of_decide_eq_true hc) rfl (fun ls9 hl9 => kK _ _ _ _ h _ _ _ (zhas_s1 hl9) hP hS)
  case lstore_n z =>
    cases zlen_of hln (k := 0) rfl
    have h00 := zpJ_e h
    clear h
    obtain ⟨x, r, rfl, h⟩ := h00
    exact lv_lstore_n hx hb hd rfl hl (of_decide_eq_true hc) rfl (fun ls9 hl9 => kK _ _ _ _ h _ _ _ (zhas_s2 hl9) hP hS)
  case lstore z =>
    cases zlen_of hln (k := 1) rfl
    have h00 := zpJ_e h
    clear h
    obtain ⟨x, r, rfl, h⟩ := h00
    exact lv_lstore hx hb hd hl (of_decide_eq_true hc) rfl (fun ls9 hl9 => kK _ _ _ _ h _ _ _ (zhas_s2 hl9) hP hS)
  case astore_n z =>
    cases zlen_of hln (k := 0) rfl
    have h00 := zpR_e h
    clear h
    obtain ⟨x, r, rfl, h⟩ := h00
    exact lv_astore_n hx hb hd rfl hl (of_decide_eq_true hc) rfl (fun ls9 hl9 => kK _ _ _ _ h _ _ _ (zhas_s1 hl9) hP hS)
  case astore z =>
    cases zlen_of hln (k := 1) rfl
    have h00 := zpR_e h
    clear h
    obtain ⟨x, r, rfl, h⟩ := h00
    exact lv_astore hx hb hd hl (of_decide_eq_true hc) rfl (fun ls9 hl9 => kK _ _ _ _ h _ _ _ (zhas_s1 hl9) hP hS)
  case iinc z d =>
    cases zlen_of hln (k := 2) rfl
    have h00 := zldI_e h
    clear h
    obtain ⟨x, h1, h⟩ := h00
    obtain ⟨k9, hk9⟩ := List.getElem?_of_mem (show ((z, Value.int x) : Nat × Value) ∈ zcl ad lv from List.mem_map.mpr ⟨((z, Value.int x) : Nat × Value), zlk_mem h1, rfl⟩)
    exact lv_iinc hx hb hd hl hk9 rfl (of_decide_eq_true hc) rfl (fun ls9 hl9 => kK _ _ _ _ h _ _ _ (zhas_s1 (v := .int (x + Int32.ofInt d)) hl9) hP hS)
  case iadd =>
    cases zlen_of hln (k := 0) rfl
    have h00 := zpI_e h
    clear h
    obtain ⟨y, r, rfl, h⟩ := h00
    have h00 := zpI_e h
    clear h
    obtain ⟨x, r, rfl, h⟩ := h00
    exact lv_iadd hx hb hd (kK _ _ _ _ h _ _ _ hl hP hS)
  case isub =>
    cases zlen_of hln (k := 0) rfl
    have h00 := zpI_e h
    clear h
    obtain ⟨y, r, rfl, h⟩ := h00
    have h00 := zpI_e h
    clear h
    obtain ⟨x, r, rfl, h⟩ := h00
    exact lv_isub hx hb hd (kK _ _ _ _ h _ _ _ hl hP hS)
  case imul =>
    cases zlen_of hln (k := 0) rfl
    have h00 := zpI_e h
    clear h
    obtain ⟨y, r, rfl, h⟩ := h00
    have h00 := zpI_e h
    clear h
    obtain ⟨x, r, rfl, h⟩ := h00
    exact lv_imul hx hb hd (kK _ _ _ _ h _ _ _ hl hP hS)
  case iand =>
    cases zlen_of hln (k := 0) rfl
    have h00 := zpI_e h
    clear h
    obtain ⟨y, r, rfl, h⟩ := h00
    have h00 := zpI_e h
    clear h
    obtain ⟨x, r, rfl, h⟩ := h00
    exact lv_iand hx hb hd (kK _ _ _ _ h _ _ _ hl hP hS)
  case ior =>
    cases zlen_of hln (k := 0) rfl
    have h00 := zpI_e h
    clear h
    obtain ⟨y, r, rfl, h⟩ := h00
    have h00 := zpI_e h
    clear h
    obtain ⟨x, r, rfl, h⟩ := h00
    exact lv_ior hx hb hd (kK _ _ _ _ h _ _ _ hl hP hS)
  case ixor =>
    cases zlen_of hln (k := 0) rfl
    have h00 := zpI_e h
    clear h
    obtain ⟨y, r, rfl, h⟩ := h00
    have h00 := zpI_e h
    clear h
    obtain ⟨x, r, rfl, h⟩ := h00
    exact lv_ixor hx hb hd (kK _ _ _ _ h _ _ _ hl hP hS)
  case ishl =>
    cases zlen_of hln (k := 0) rfl
    have h00 := zpI_e h
    clear h
    obtain ⟨y, r, rfl, h⟩ := h00
    have h00 := zpI_e h
    clear h
    obtain ⟨x, r, rfl, h⟩ := h00
    exact lv_ishl hx hb hd (kK _ _ _ _ h _ _ _ hl hP hS)
  case ishr =>
    cases zlen_of hln (k := 0) rfl
    have h00 := zpI_e h
    clear h
    obtain ⟨y, r, rfl, h⟩ := h00
    have h00 := zpI_e h
    clear h
    obtain ⟨x, r, rfl, h⟩ := h00
    exact lv_ishr hx hb hd (kK _ _ _ _ h _ _ _ hl hP hS)
  case iushr =>
    cases zlen_of hln (k := 0) rfl
    have h00 := zpI_e h
    clear h
    obtain ⟨y, r, rfl, h⟩ := h00
    have h00 := zpI_e h
    clear h
    obtain ⟨x, r, rfl, h⟩ := h00
    exact lv_iushr hx hb hd rfl (kK _ _ _ _ h _ _ _ hl hP hS)
  case ladd =>
    cases zlen_of hln (k := 0) rfl
    have h00 := zpJ_e h
    clear h
    obtain ⟨y, r, rfl, h⟩ := h00
    have h00 := zpJ_e h
    clear h
    obtain ⟨x, r, rfl, h⟩ := h00
    exact lv_ladd hx hb hd (kK _ _ _ _ h _ _ _ hl hP hS)
  case lsub =>
    cases zlen_of hln (k := 0) rfl
    have h00 := zpJ_e h
    clear h
    obtain ⟨y, r, rfl, h⟩ := h00
    have h00 := zpJ_e h
    clear h
    obtain ⟨x, r, rfl, h⟩ := h00
    exact lv_lsub hx hb hd (kK _ _ _ _ h _ _ _ hl hP hS)
  case lmul =>
    cases zlen_of hln (k := 0) rfl
    have h00 := zpJ_e h
    clear h
    obtain ⟨y, r, rfl, h⟩ := h00
    have h00 := zpJ_e h
    clear h
    obtain ⟨x, r, rfl, h⟩ := h00
    exact lv_lmul hx hb hd (kK _ _ _ _ h _ _ _ hl hP hS)
  case land =>
    cases zlen_of hln (k := 0) rfl
    have h00 := zpJ_e h
    clear h
    obtain ⟨y, r, rfl, h⟩ := h00
    have h00 := zpJ_e h
    clear h
    obtain ⟨x, r, rfl, h⟩ := h00
    exact lv_land hx hb hd (kK _ _ _ _ h _ _ _ hl hP hS)
  case lor =>
    cases zlen_of hln (k := 0) rfl
    have h00 := zpJ_e h
    clear h
    obtain ⟨y, r, rfl, h⟩ := h00
    have h00 := zpJ_e h
    clear h
    obtain ⟨x, r, rfl, h⟩ := h00
    exact lv_lor hx hb hd (kK _ _ _ _ h _ _ _ hl hP hS)
  case lshl =>
    cases zlen_of hln (k := 0) rfl
    have h00 := zpI_e h
    clear h
    obtain ⟨y, r, rfl, h⟩ := h00
    have h00 := zpJ_e h
    clear h
    obtain ⟨x, r, rfl, h⟩ := h00
    exact lv_lshl hx hb hd rfl (kK _ _ _ _ h _ _ _ hl hP hS)
  case lshr =>
    cases zlen_of hln (k := 0) rfl
    have h00 := zpI_e h
    clear h
    obtain ⟨y, r, rfl, h⟩ := h00
    have h00 := zpJ_e h
    clear h
    obtain ⟨x, r, rfl, h⟩ := h00
    exact lv_lshr hx hb hd rfl (kK _ _ _ _ h _ _ _ hl hP hS)
  case lushr =>
    cases zlen_of hln (k := 0) rfl
    have h00 := zpI_e h
    clear h
    obtain ⟨y, r, rfl, h⟩ := h00
    have h00 := zpJ_e h
    clear h
    obtain ⟨x, r, rfl, h⟩ := h00
    exact lv_lushr hx hb hd rfl (kK _ _ _ _ h _ _ _ hl hP hS)
  case idiv =>
    cases zlen_of hln (k := 0) rfl
    have h00 := zpI_e h
    clear h
    obtain ⟨y, r, rfl, h⟩ := h00
    have h00 := zpI_e h
    clear h
    obtain ⟨x, r, rfl, h0, h⟩ := h00
    exact lv_idiv hx hb hd h0 (kK _ _ _ _ h _ _ _ hl hP hS)
  case irem =>
    cases zlen_of hln (k := 0) rfl
    have h00 := zpI_e h
    clear h
    obtain ⟨y, r, rfl, h⟩ := h00
    have h00 := zpI_e h
    clear h
    obtain ⟨x, r, rfl, h0, h⟩ := h00
    exact lv_irem hx hb hd h0 (kK _ _ _ _ h _ _ _ hl hP hS)
  case ldiv =>
    cases zlen_of hln (k := 0) rfl
    have h00 := zpJ_e h
    clear h
    obtain ⟨y, r, rfl, h⟩ := h00
    have h00 := zpJ_e h
    clear h
    obtain ⟨x, r, rfl, h0, h⟩ := h00
    exact lv_ldiv hx hb hd h0 (kK _ _ _ _ h _ _ _ hl hP hS)
  case lrem =>
    cases zlen_of hln (k := 0) rfl
    have h00 := zpJ_e h
    clear h
    obtain ⟨y, r, rfl, h⟩ := h00
    have h00 := zpJ_e h
    clear h
    obtain ⟨x, r, rfl, h0, h⟩ := h00
    exact lv_lrem hx hb hd h0 (kK _ _ _ _ h _ _ _ hl hP hS)
  case lcmp =>
    cases zlen_of hln (k := 0) rfl
    have h00 := zpJ_e h
    clear h
    obtain ⟨y, r, rfl, h⟩ := h00
    have h00 := zpJ_e h
    clear h
    obtain ⟨x, r, rfl, h⟩ := h00
    exact W.lcmp hx hb hd (kK _ _ _ _ h _ _ _ hl hP hS)
  case i2l =>
    cases zlen_of hln (k := 0) rfl
    have h00 := zpI_e h
    clear h
    obtain ⟨x, r, rfl, h⟩ := h00
    exact lv_i2l hx hb hd rfl (kK _ _ _ _ h _ _ _ hl hP hS)
  case l2i =>
    cases zlen_of hln (k := 0) rfl
    have h00 := zpJ_e h
    clear h
    obtain ⟨x, r, rfl, h⟩ := h00
    exact lv_l2i hx hb hd rfl (kK _ _ _ _ h _ _ _ hl hP hS)
  case i2b =>
    cases zlen_of hln (k := 0) rfl
    have h00 := zpI_e h
    clear h
    obtain ⟨x, r, rfl, h⟩ := h00
    exact lv_i2b hx hb hd rfl (kK _ _ _ _ h _ _ _ hl hP hS)
  case dup =>
    cases zlen_of hln (k := 0) rfl
    unfold zdup at h
    split at h
    · exact lv_dup hx hb hd rfl (kK _ _ _ _ h _ _ _ hl hP hS)
    · exact lv_dup hx hb hd rfl (kK _ _ _ _ h _ _ _ hl hP hS)
    · exact h.elim
  case dup2 =>
    cases zlen_of hln (k := 0) rfl
    unfold zdup2 at h
    split at h
    · exact lv_dup2_11 hx hb hd rfl rfl (kK _ _ _ _ h _ _ _ hl hP hS)
    · exact lv_dup2_2 hx hb hd rfl (kK _ _ _ _ h _ _ _ hl hP hS)
    · exact h.elim
  case goto off =>
    cases zlen_of hln (k := 2) rfl
    exact lv_goto hx hb hd (of_decide_eq_true hc) (kK _ _ _ _ h _ _ _ hl hP hS)
  case ifCond cd off =>
    cases zlen_of hln (k := 2) rfl
    have h00 := zpI_e h
    clear h
    obtain ⟨x, r, rfl, h⟩ := h00
    unfold zbr at h
    cases cd
    case eq => exact lv_if_eq hx hb hd (of_decide_eq_true hc) (fun z => kK _ _ _ _ (h.1 z) _ _ _ hl hP hS) (fun z => kK _ _ _ _ (h.2 z) _ _ _ hl hP hS)
    case ne => exact lv_if_ne hx hb hd (of_decide_eq_true hc) (fun z => kK _ _ _ _ (h.1 z) _ _ _ hl hP hS) (fun z => kK _ _ _ _ (h.2 z) _ _ _ hl hP hS)
    case lt => exact lv_if_lt hx hb hd (of_decide_eq_true hc) (fun z => kK _ _ _ _ (h.1 z) _ _ _ hl hP hS) (fun z => kK _ _ _ _ (h.2 z) _ _ _ hl hP hS)
    case ge => exact lv_if_ge hx hb hd (of_decide_eq_true hc) (fun z => kK _ _ _ _ (h.1 z) _ _ _ hl hP hS) (fun z => kK _ _ _ _ (h.2 z) _ _ _ hl hP hS)
    case gt => exact lv_if_gt hx hb hd (of_decide_eq_true hc) (fun z => kK _ _ _ _ (h.1 z) _ _ _ hl hP hS) (fun z => kK _ _ _ _ (h.2 z) _ _ _ hl hP hS)
    case le => exact lv_if_le hx hb hd (of_decide_eq_true hc) (fun z => kK _ _ _ _ (h.1 z) _ _ _ hl hP hS) (fun z => kK _ _ _ _ (h.2 z) _ _ _ hl hP hS)
  case if_icmp cd off =>
    cases zlen_of hln (k := 2) rfl
    have h00 := zpI_e h
    clear h
    obtain ⟨y, r, rfl, h⟩ := h00
    have h00 := zpI_e h
    clear h
    obtain ⟨x, r, rfl, h⟩ := h00
    unfold zbr at h
    cases cd
    case eq => exact lv_icmp_eq hx hb hd (of_decide_eq_true hc) (fun z => kK _ _ _ _ (h.1 z) _ _ _ hl hP hS) (fun z => kK _ _ _ _ (h.2 z) _ _ _ hl hP hS)
    case ne => exact lv_icmp_ne hx hb hd (of_decide_eq_true hc) (fun z => kK _ _ _ _ (h.1 z) _ _ _ hl hP hS) (fun z => kK _ _ _ _ (h.2 z) _ _ _ hl hP hS)
    case lt => exact lv_icmp_lt hx hb hd (of_decide_eq_true hc) (fun z => kK _ _ _ _ (h.1 z) _ _ _ hl hP hS) (fun z => kK _ _ _ _ (h.2 z) _ _ _ hl hP hS)
    case ge => exact lv_icmp_ge hx hb hd (of_decide_eq_true hc) (fun z => kK _ _ _ _ (h.1 z) _ _ _ hl hP hS) (fun z => kK _ _ _ _ (h.2 z) _ _ _ hl hP hS)
    case gt => exact lv_icmp_gt hx hb hd (of_decide_eq_true hc) (fun z => kK _ _ _ _ (h.1 z) _ _ _ hl hP hS) (fun z => kK _ _ _ _ (h.2 z) _ _ _ hl hP hS)
    case le => exact lv_icmp_le hx hb hd (of_decide_eq_true hc) (fun z => kK _ _ _ _ (h.1 z) _ _ _ hl hP hS) (fun z => kK _ _ _ _ (h.2 z) _ _ _ hl hP hS)
  case tableswitch dflt lo hi offs =>
    have h00 := zpI_e h
    clear h
    obtain ⟨x, r, rfl, h⟩ := h00
    simp only [Bool.and_eq_true, decide_eq_true_eq, List.all_eq_true] at hc
    obtain ⟨⟨⟨⟨⟨c1, c2⟩, c3⟩, c4⟩, c5⟩, c6⟩ := hc
    obtain ⟨t1, t2⟩ := zsw_tab h
    have key : ∀ j : Nat, j < offs.size → ∃ (q : Int32 × Nat) (off : Int), ts[j]? = some q ∧ offs[j]? = some off ∧ q.1 = Int32.ofInt (lo + j) ∧ (pc : Int) + off = (q.2 : Int) := by
      intro j hj
      have h6 := c6 j (List.mem_range.mpr hj)
      split at h6
      · rename_i q off e1 e2
        simp only [Bool.and_eq_true, decide_eq_true_eq] at h6
        exact ⟨q, off, e1, e2, h6.1, h6.2⟩
      · cases h6
    have hval : ∀ j : Nat, j < offs.size → (Int32.ofInt (lo + j)).toInt = lo + j := by
      intro j hj
      have e9 : ((Int32.size : Nat) : Int) = 4294967296 := rfl
      rw [Int32.toInt_ofInt]
      exact Int.bmod_eq_of_le (by omega) (by omega)
    by_cases g1 : x.toInt < lo ∨ hi < x.toInt
    · refine lv_tableOut hx hb hd g1 c1 (kK _ _ _ _ (t2 (fun q hq e => ?_)) _ _ _ hl hP hS)
      obtain ⟨j, hj⟩ := List.getElem?_of_mem hq
      have hjl : j < offs.size := by
        have := (List.getElem?_eq_some_iff.mp hj).1
        omega
      obtain ⟨q', off, e1, e2, e3, e4⟩ := key j hjl
      cases hj.symm.trans e1
      rw [e3] at e
      have := hval j hjl
      rw [← e] at this
      omega
    · have g2 : ¬ x.toInt < lo := fun z => g1 (Or.inl z)
      have g3 : ¬ hi < x.toInt := fun z => g1 (Or.inr z)
      have hj : (x.toInt - lo).toNat < offs.size := by omega
      obtain ⟨q, off, e1, e2, e3, e4⟩ := key _ hj
      refine lv_tableIn hx hb hd g2 g3 e2 e4 (kK _ _ _ _ (t1 _ q e1 (fun i q' hi' hq' e => ?_) ?_) _ _ _ hl hP hS)
      · obtain ⟨q'', off', f1, f2, f3, f4⟩ := key i (by omega)
        cases hq'.symm.trans f1
        rw [f3] at e
        have := hval i (by omega)
        rw [← e] at this
        omega
      · rw [e3]
        apply Int32.toInt_inj.mp
        rw [hval _ hj]
        omega
  case lookupswitch dflt ps =>
    have h00 := zpI_e h
    clear h
    obtain ⟨x, r, rfl, h⟩ := h00
    simp only [Bool.and_eq_true, decide_eq_true_eq] at hc
    obtain ⟨⟨c1, c2⟩, c3⟩ := hc
    have key : ∀ (ts : List (Int32 × Nat)) (pl : List (Int × Int)), ts.map (fun q => (q.1.toInt, (q.2 : Int))) = pl.map (fun q => (q.1, (pc : Int) + q.2)) → zsw x (fun t => K t lv r σ) a ts → ∃ t : Nat, (pc : Int) + Op.lookupswitch.offset pl dflt x.toInt = (t : Int) ∧ K t lv r σ := by
      intro ts
      induction ts with
      | nil =>
        intro pl e hz
        cases pl with
        | nil => exact ⟨a, c1, hz⟩
        | cons q l => simp at e
      | cons t ts ih =>
        intro pl e hz
        cases pl with
        | nil => simp at e
        | cons q l =>
          simp only [List.map_cons, List.cons.injEq, Prod.mk.injEq] at e
          obtain ⟨⟨e1, e2⟩, e3⟩ := e
          unfold zsw at hz
          obtain ⟨q1, q2⟩ := q
          rw [Op.lookupswitch.offset_cons]
          by_cases hxt : x = t.1
          · rw [if_pos (by rw [hxt]; exact e1.symm)]
            exact ⟨t.2, e2.symm, hz.1 hxt⟩
          · rw [if_neg (fun z => hxt (Int32.toInt_inj.mp (by rw [e1]; exact z.symm)))]
            exact ih l e3 (hz.2 hxt)
    obtain ⟨t, e1, e2⟩ := key ts ps.toList c3 h
    exact lv_lookup hx hb hd c2 rfl e1 (kK _ _ _ _ e2 _ _ _ hl hP hS)
  case getfield idx =>
    cases zlen_of hln (k := 2) rfl
    have h00 := zpR_e h
    clear h
    obtain ⟨c9, r, rfl, hk, h⟩ := h00
    simp only [Bool.and_eq_true, decide_eq_true_eq] at hc
    obtain ⟨⟨h8, hbN⟩, hlk⟩ := hc
    have hlt : c9 < 82 := zK_lt (by omega)
    exact va_get (v := zcv ad (zfv σ c9 b)) hx hb hts (ztIn a h8) hown hK hP c9 (by rw [zwl_at hlt, zce_obj hk h8]) (tCl a h8) b hbN (hts _ (zlk_in _ (List.mem_of_getElem? hlk))) (fun _ z => z) (zrange_at hbN) hd (kK _ _ _ _ h _ _ _ hl hP hS)
  case putfield idx =>
    cases zlen_of hln (k := 2) rfl
    simp only [Bool.and_eq_true, decide_eq_true_eq, Bool.not_eq_true'] at hc
    obtain ⟨⟨⟨⟨h8, hbN⟩, hlk⟩, hfin⟩, hty⟩ := hc
    have hln2 : b < ((List.range (tN a)).map (fun k => zcv ad (zfv σ 0 k))).length := by simpa using hbN
    split at h
    · rename_i ht
      rw [ht] at hty
      have hty := of_decide_eq_true hty
      have h00 := zpI_e h
      clear h
      obtain ⟨x, r, rfl, h⟩ := h00
      have h00 := zpR_e h
      clear h
      obtain ⟨c9, r, rfl, hk, h⟩ := h00
      have hlt : c9 < 82 := zK_lt (by omega)
      refine va_put (v := .int x) hx hb hts (ztIn a h8) (tY a) (tTy a h8) (tNm a h8) hown hK hP hD hS c9 (by rw [zwl_at hlt, zce_obj hk h8]) (tCl a h8) b hbN (hts _ (zlk_in _ (List.mem_of_getElem? hlk))) (fun _ z => z) hfin ((tTy a h8 b hbN).trans (by rw [hty])) rfl rfl (by simpa using hbN) hd (fun H1 locs1 hP1 _ hS1 => ?_)
      rw [zwl_set (σ' := zwI σ c9 b x) hlt (zobj_wI hk h8 ht) (fun c' hc' => zce_wA hc')] at hP1
      exact kK _ _ _ _ h _ _ _ hl hP1 hS1
    · rename_i ht
      rw [ht] at hty
      have hty := of_decide_eq_true hty
      have h00 := zpJ_e h
      clear h
      obtain ⟨x, r, rfl, h⟩ := h00
      have h00 := zpR_e h
      clear h
      obtain ⟨c9, r, rfl, hk, h⟩ := h00
      have hlt : c9 < 82 := zK_lt (by omega)
      refine va_put (v := .long x) hx hb hts (ztIn a h8) (tY a) (tTy a h8) (tNm a h8) hown hK hP hD hS c9 (by rw [zwl_at hlt, zce_obj hk h8]) (tCl a h8) b hbN (hts _ (zlk_in _ (List.mem_of_getElem? hlk))) (fun _ z => z) hfin ((tTy a h8 b hbN).trans (by rw [hty])) rfl rfl (by simpa using hbN) hd (fun H1 locs1 hP1 _ hS1 => ?_)
      rw [zwl_set (σ' := zwJ σ c9 b x) hlt (zobj_wJ hk h8 ht) (fun c' hc' => zce_wL hc')] at hP1
      exact kK _ _ _ _ h _ _ _ hl hP1 hS1
    · rename_i ht0 ht1
      have h00 := zpR_e h
      clear h
      obtain ⟨x, r, rfl, h⟩ := h00
      have h00 := zpR_e h
      clear h
      obtain ⟨c9, r, rfl, ⟨rfl, rfl⟩, h⟩ := h00
      split at hty
      · rename_i q; exact absurd q ht0
      · rename_i q; exact absurd q ht1
      · simp only [Bool.and_eq_true, decide_eq_true_eq, Bool.or_eq_true] at hty
        obtain ⟨hty, hb12⟩ := hty
        refine va_put (v := .ref (ad x)) hx hb hts (ztIn 6 h8) (tY 6) (tTy 6 h8) (tNm 6 h8) hown hK hP hD hS 0 (by rw [zwl_at (by decide), zce_obj (c := 0) (ci := 6) rfl h8]) (tCl 6 h8) b hbN (hts _ (zlk_in _ (List.mem_of_getElem? hlk))) (fun _ z => z) hfin ((tTy 6 h8 b hbN).trans (by rw [hty])) rfl rfl (by simpa using hbN) hd (fun H1 locs1 hP1 _ hS1 => ?_)
        rw [zwl_set (σ' := zwR σ b x) (by decide) (zobj_wR hb12) (fun c' hc' => zce_wR hc')] at hP1
        exact kK _ _ _ _ h _ _ _ hl hP1 hS1
  case iaload =>
    cases zlen_of hln (k := 0) rfl
    cases a with
    | zero =>
      have h00 := zpI_e h
      clear h
      obtain ⟨j, r, rfl, h⟩ := h00
      have h00 := zpR_e h
      clear h
      obtain ⟨c9, r, rfl, ⟨hk, hin⟩, h⟩ := h00
      have hlt : c9 < 82 := zK_lt (by omega)
      exact va_iald hx hb hK hP c9 0 (by rw [zwl_at hlt, zce_i hk (by decide) (by decide)]) rfl hin hd (kK _ _ _ _ h _ _ _ hl hP hS)
    | succ a =>
      have h00 := zpI_e h
      clear h
      obtain ⟨j, r, rfl, h⟩ := h00
      have h00 := zpR_e h
      clear h
      obtain ⟨c9, r, rfl, ⟨rfl, hs1, hin⟩, h⟩ := h00
      obtain ⟨hXs, hbl, hbA⟩ := hSC hs1
      exact va_sld hx hb hXs hbl hbA hS hin hd (kK _ _ _ _ h _ _ _ hl hP hS)
  case baload =>
    cases zlen_of hln (k := 0) rfl
    have h00 := zpI_e h
    clear h
    obtain ⟨j, r, rfl, h⟩ := h00
    have h00 := zpR_e h
    clear h
    obtain ⟨c9, r, rfl, ⟨hk, hin⟩, h⟩ := h00
    have hlt : c9 < 82 := zK_lt (by omega)
    rcases hk with hk | hk
    · exact va_bald hx hb hK hP c9 1 (by rw [zwl_at hlt, zce_i hk (by decide) (by decide)]) rfl hin hd (kK _ _ _ _ h _ _ _ hl hP hS)
    · exact va_zald hx hb hK hP c9 2 (by rw [zwl_at hlt, zce_i hk (by decide) (by decide)]) rfl hin hd (kK _ _ _ _ h _ _ _ hl hP hS)
  case laload =>
    cases zlen_of hln (k := 0) rfl
    have h00 := zpI_e h
    clear h
    obtain ⟨j, r, rfl, h⟩ := h00
    have h00 := zpR_e h
    clear h
    obtain ⟨c9, r, rfl, ⟨hk, hin⟩, h⟩ := h00
    have hlt : c9 < 82 := zK_lt (by omega)
    exact va_lald hx hb hK hP c9 3 (by rw [zwl_at hlt, zce_l hk]) rfl hin hd (kK _ _ _ _ h _ _ _ hl hP hS)
  case aaload =>
    cases zlen_of hln (k := 0) rfl
    have h00 := zpI_e h
    clear h
    obtain ⟨j, r, rfl, h⟩ := h00
    have h00 := zpR_e h
    clear h
    obtain ⟨c9, r, rfl, ⟨hk, hin⟩, h⟩ := h00
    have hlt : c9 < 82 := zK_lt (by omega)
    rcases hk with hk | hk
    · exact va_aldq (f := fun i => some (ad (zR c9 i))) hx hb hK hP c9 4 (by rw [zwl_at hlt, zce_r hk (by decide)]) rfl hin hd (kK _ _ _ _ h _ _ _ hl hP hS)
    · have hlt2 : j.toNatClampNeg < zLn c9 := Nat.not_le.mp fun q => hin (Or.inr q)
      have hcell := hP c9 _ (zwl_at hlt)
      rw [zce_r hk (by decide)] at hcell
      exact W.aald (v := .ref (ad (zR c9 j.toNatClampNeg))) (ty := .array .long) hx hb hcell ((hK.2 5 _ rfl).1 (zLn c9) (fun i => va_rf (some (ad (zR c9 i))))) rfl (fun q => by cases q) (by show ¬ (j < 0 ∨ (arrV _ _ _).slots.size ≤ _); rw [arrV_size]; exact hin) (by show (arrV _ _ _).slots[_]? = _; rw [arrV_read _ _ hlt2]; rfl) rfl rfl hd (kK _ _ _ _ h _ _ _ hl hP hS)
  case iastore =>
    cases zlen_of hln (k := 0) rfl
    have h00 := zpI_e h
    clear h
    obtain ⟨x, r, rfl, h⟩ := h00
    have h00 := zpI_e h
    clear h
    obtain ⟨j, r, rfl, h⟩ := h00
    have h00 := zpR_e h
    clear h
    obtain ⟨c9, r, rfl, ⟨hk, hin⟩, h⟩ := h00
    have hlt : c9 < 82 := zK_lt (by omega)
    refine va_iast hx hb hK hP hD hS c9 0 (by rw [zwl_at hlt, zce_i hk (by decide) (by decide)]) rfl hin hd (fun H1 locs1 hP1 _ hS1 => ?_)
    rw [zwl_set (σ' := zwI σ c9 j.toNatClampNeg x) hlt (by rw [zce_i hk (by decide) (by decide)]; simp [zwI, zwA, zwJ, zwL]) (fun c' hc' => zce_wA hc')] at hP1
    exact kK _ _ _ _ h _ _ _ hl hP1 hS1
  case bastore =>
    cases zlen_of hln (k := 0) rfl
    cases a with
    | zero =>
      have h00 := zpI_e h
      clear h
      obtain ⟨x, r, rfl, h⟩ := h00
      have h00 := zpI_e h
      clear h
      obtain ⟨j, r, rfl, h⟩ := h00
      have h00 := zpR_e h
      clear h
      obtain ⟨c9, r, rfl, ⟨hk, hin⟩, h⟩ := h00
      have hlt : c9 < 82 := zK_lt (by omega)
      refine va_bast hx hb hK hP hD hS c9 1 (by rw [zwl_at hlt, zce_i hk (by decide) (by decide)]) rfl hin hd (fun H1 locs1 hP1 _ hS1 => ?_)
      rw [zwl_set (σ' := zwI σ c9 j.toNatClampNeg (vp_nar .byte x)) hlt (by rw [zce_i hk (by decide) (by decide)]; simp [zwI, zwA, zwJ, zwL]) (fun c' hc' => zce_wA hc')] at hP1
      exact kK _ _ _ _ h _ _ _ hl hP1 hS1
    | succ a =>
      have h00 := zpI_e h
      clear h
      obtain ⟨x, r, rfl, h⟩ := h00
      have h00 := zpI_e h
      clear h
      obtain ⟨j, r, rfl, h⟩ := h00
      have h00 := zpR_e h
      clear h
      obtain ⟨c9, r, rfl, ⟨hk, hin⟩, h⟩ := h00
      have hlt : c9 < 82 := zK_lt (by omega)
      refine va_zast hx hb hK hP hD hS c9 2 (by rw [zwl_at hlt, zce_i hk (by decide) (by decide)]) rfl hin hd (fun H1 locs1 hP1 _ hS1 => ?_)
      rw [zwl_set (σ' := zwI σ c9 j.toNatClampNeg (vp_nar .boolean x)) hlt (by rw [zce_i hk (by decide) (by decide)]; simp [zwI, zwA, zwJ, zwL]) (fun c' hc' => zce_wA hc')] at hP1
      exact kK _ _ _ _ h _ _ _ hl hP1 hS1
  case lastore =>
    cases zlen_of hln (k := 0) rfl
    have h00 := zpJ_e h
    clear h
    obtain ⟨x, r, rfl, h⟩ := h00
    have h00 := zpI_e h
    clear h
    obtain ⟨j, r, rfl, h⟩ := h00
    have h00 := zpR_e h
    clear h
    obtain ⟨c9, r, rfl, ⟨hk, hin⟩, h⟩ := h00
    have hlt : c9 < 82 := zK_lt (by omega)
    refine va_last hx hb hK hP hD hS c9 3 (by rw [zwl_at hlt, zce_l hk]) rfl hin hd (fun H1 locs1 hP1 _ hS1 => ?_)
    rw [zwl_set (σ' := zwJ σ c9 j.toNatClampNeg x) hlt (by rw [zce_l hk]; simp [zwI, zwA, zwJ, zwL]) (fun c' hc' => zce_wL hc')] at hP1
    exact kK _ _ _ _ h _ _ _ hl hP1 hS1
  case arraylength =>
    cases zlen_of hln (k := 0) rfl
    cases a with
    | zero =>
      have h00 := zpR_e h
      clear h
      obtain ⟨c9, r, rfl, hk, h⟩ := h00
      have hlt : c9 < 82 := zK_lt (by omega)
      exact va_alen (x := (zLn c9, .inl (σ.1 c9))) hx hb hK hP c9 0 (by rw [zwl_at hlt, zce_i hk (by decide) (by decide)]) (ty := .int) rfl rfl hd (kK _ _ _ _ h _ _ _ hl hP hS)
    | succ a =>
      have h00 := zpR_e h
      clear h
      obtain ⟨c9, r, rfl, ⟨rfl, hs1⟩, h⟩ := h00
      obtain ⟨hXs, hbl, hbA⟩ := hSC hs1
      exact va_slen hx hb hXs hbl hbA hS hd (kK _ _ _ _ h _ _ _ hl hP hS)
  case invokevirtual idx =>
    cases zlen_of hln (k := 2) rfl
    have h00 := zpop_e h
    clear h
    obtain ⟨as, r, hl9, rfl, h⟩ := h00
    rw [List.append_nil] at h
    have h00 := zpR_e h
    clear h
    obtain ⟨c9, r, rfl, ⟨hrc, hroom⟩, rv, σ', hEv, h⟩ := h00
    simp only [Bool.and_eq_true, decide_eq_true_eq, Bool.not_eq_true'] at hc
    obtain ⟨⟨⟨hlk, haN⟩, hst⟩, hma⟩ := hc
    obtain ⟨f1, f2, f3, f4, f5, f6, f7, f8, f9⟩ := zfs a haN
    rw [hst] at f3 f9
    simp only [Bool.false_eq_true, if_false, false_or] at f3 f9
    have hG : GoodIn ztb (wsV (mY M).cls idx (mY a).cls (mY a) (zws a)) := zgood_in (fun w hw => by
      unfold wsV at hw
      rcases List.mem_append.mp hw with hw | hw
      · simp only [List.mem_cons, List.not_mem_nil, or_false] at hw
        rcases hw with rfl | rfl | rfl | rfl
        · exact zlk_in _ (List.mem_of_getElem? hlk)
        · exact zin f3.1 rfl
        · exact zin f3.2 rfl
        · exact zin f2 rfl
      · exact zws_in haN w hw)
    have hcw : CallW R s args (mY M).cls (mY a).cls idx (mY a) (mC a) (mL a) (mR a) (zws a) rm 0 0 b := cwV b hts hG rfl hrm.1 hrm.2.1 ⟨rfl, f5, f6, by rw [f7, hma]⟩ ⟨hrm.2.2.1, by have := hrm.2.2.2; omega⟩
    have hrcv : ∃ cell : Cell, H[ad c9]? = some cell ∧ cell.vm.isStatics = false ∧ s.vm.findClass (mY a).cls = some cell.cls := by
      rcases f9 with ⟨k1, k2⟩ | ⟨k1, k2⟩
      · unfold zrcv at hrc
        rw [if_pos k1] at hrc
        obtain ⟨⟨adV, hV⟩, -⟩ := hX
        have hr9 := vk_recv (i := c9 - 2000) hV (by omega) hS
        rw [k2]
        have e9 : 2000 + (c9 - 2000) = c9 := Nat.add_sub_cancel' hrc.1
        simpa [e9] using hr9
      · unfold zrcv at hrc
        rw [if_neg (by omega)] at hrc
        have hlt : c9 < 82 := zK_lt (by omega)
        rw [← k2]
        exact va_recv hK hP (tCl _ k1) (by rw [zwl_at hlt, zce_obj hrc k1])
    have hpre : ∀ U : State, U.heap = H → s.WarmedH U.vm → zPre ad cy D H.size (.ref c9 :: as) σ (Value.ref (ad c9) :: as.map (zcv ad)).toArray U := fun U hU hW => ⟨rfl, by rw [hU], by rw [hU]; exact hP, va_K.moved hW.alike hK, ⟨hDj.1, fun _ _ => trivial⟩, by rw [hU]; exact ((hX.kept hS.2.1).narrow (zA.mono hS.1)).warm hW⟩
    rw [zmapr, List.map_cons]
    refine zcallW (va_runV (As := as.map (zcv ad)) (rest := r.map (zcv ad)) ⟨hx, hb, hml, hown, hts⟩ (hE a _ σ rv σ' H.size hEv) hcw ⟨zPre.blind, hrcv, hpre⟩ rfl (by rw [List.length_map]; exact hl9) hl.1 rfl (lv_room (zrm_cv hroom)) hd hcs) hS (zA.mono hS.1) (fun H1 locs1 hP1 hS1 => ?_)
    have h9 := kK _ _ _ _ h _ _ _ hl hP1 hS1
    rw [List.map_append] at h9
    cases rv <;> exact h9
  case invokestatic idx =>
    cases zlen_of hln (k := 2) rfl
    cases e0 : Nat.beq a 900 with
    | true =>
      rw [e0] at h hc
      simp only [cond_true] at h hc
      have h00 := zpI_e h
      clear h
      obtain ⟨n9, r, rfl, h⟩ := h00
      have h00 := zpI_e h
      clear h
      obtain ⟨dp, r, rfl, h⟩ := h00
      have h00 := zpR_e h
      clear h
      obtain ⟨c1, r, rfl, h⟩ := h00
      have h00 := zpI_e h
      clear h
      obtain ⟨sp, r, rfl, h⟩ := h00
      have h00 := zpR_e h
      clear h
      obtain ⟨c0, r, rfl, ⟨k0, k1, rfl, g1, g2, g3, g4, g5⟩, h⟩ := h00
      have hlt0 : c0 < 82 := zK_lt (by omega)
      have hlt1 : c1 < 82 := zK_lt (by omega)
      have e9 : nativeFrameWords "java/lang/System" "arraycopy" 5 = 7 := by decide
      have hw9 : (([] : List Value).map fun v => v.category).sum + (nativeFrameWords "java/lang/System" "arraycopy" 5 + 11) ≤ R.locals := by
        rw [e9]
        have := hrm.2.2.2
        show 0 + 18 ≤ R.locals
        omega
      refine va_copyi (rest := []) hx hb (hml.trans hl.1.symm) hown (hts _ (zlk_in _ (List.mem_of_getElem? (of_decide_eq_true hc)))) (hts _ zw_nat) (hts _ zw_stat) (hts _ zw_sys) hK hP hD hS c0 c1 0 0 (ty := .int) (by rw [zwl_at hlt0, zce_i k0 (by decide) (by decide)]) (by rw [zwl_at hlt1, zce_i k1 (by decide) (by decide)]) rfl rfl rfl g1 g2 g3 g4 g5 (fun _ _ => rfl) (by have := hrm.2.2.1; omega) hw9 hd (fun H1 locs1 hP1 _ hS1 => ?_)
      rw [zwl_set hlt1 (σ' := zwA σ c1 (va_cpy (σ.1 c0) (σ.1 c1) sp.toNatClampNeg dp.toNatClampNeg n9.toNatClampNeg)) (by rw [zce_i k1 (by decide) (by decide)]; simp [zwA]) (fun c' hc' => zce_wA hc')] at hP1
      exact kK _ _ _ _ h _ _ _ hl hP1 hS1
    | false =>
      rw [e0] at h hc
      simp only [cond_false] at h hc
      cases e1 : Nat.beq a 901 with
      | true =>
        rw [e1] at h hc
        simp only [cond_true] at h hc
        have h00 := zpI_e h
        clear h
        obtain ⟨y, r, rfl, h⟩ := h00
        have h00 := zpI_e h
        clear h
        obtain ⟨x, r, rfl, hroom, h⟩ := h00
        exact va_mmin hx hb (hml.trans hl.1.symm) hown (hts _ (zlk_in _ (List.mem_of_getElem? (of_decide_eq_true hc)))) (hts _ zw_min_s) (hts _ zw_math) (hts _ zw_min_c) (by have := hrm.2.2.1; omega) (by have := hrm.2.2.2; have := zrm_cv (ad := ad) hroom; omega) hcs.1 hcs.2 hd (kK _ _ _ _ h _ _ _ hl hP hS)
      | false =>
        rw [e1] at h hc
        simp only [cond_false] at h hc
        cases e2 : Nat.beq a 902 with
        | true =>
          rw [e2] at h hc
          simp only [cond_true] at h hc
          have h00 := zpI_e h
          clear h
          obtain ⟨y, r, rfl, h⟩ := h00
          have h00 := zpI_e h
          clear h
          obtain ⟨x, r, rfl, hroom, h⟩ := h00
          exact va_mmax hx hb (hml.trans hl.1.symm) hown (hts _ (zlk_in _ (List.mem_of_getElem? (of_decide_eq_true hc)))) (hts _ zw_max_s) (hts _ zw_math) (hts _ zw_max_c) (by have := hrm.2.2.1; omega) (by have := hrm.2.2.2; have := zrm_cv (ad := ad) hroom; omega) hcs.1 hcs.2 hd (kK _ _ _ _ h _ _ _ hl hP hS)
        | false =>
          rw [e2] at h hc
          simp only [cond_false] at h hc
          cases e3 : Nat.beq a 903 with
          | true =>
            rw [e3] at h hc
            simp only [cond_true] at h hc
            have h00 := zpJ_e h
            clear h
            obtain ⟨y, r, rfl, h⟩ := h00
            have h00 := zpJ_e h
            clear h
            obtain ⟨x, r, rfl, hroom, h⟩ := h00
            exact va_mmax_long hx hb (hml.trans hl.1.symm) hown (hts _ (zlk_in _ (List.mem_of_getElem? (of_decide_eq_true hc)))) (hts _ zw_maxl_s) (hts _ zw_math) (hts _ zw_maxl_c) (by have := hrm.2.2.1; omega) (by have := hrm.2.2.2; have := zrm_cv (ad := ad) hroom; omega) hcs.1 hcs.2 hd (kK _ _ _ _ h _ _ _ hl hP hS)
          | false =>
            rw [e3] at h hc
            simp only [cond_false] at h hc
            have h00 := zpop_e h
            clear h
            obtain ⟨as, r, hl9, rfl, hroom, rv, σ', hEv, h⟩ := h00
            rw [List.append_nil] at hEv
            simp only [Bool.and_eq_true, decide_eq_true_eq] at hc
            obtain ⟨⟨⟨hlk, haN⟩, hst⟩, hma⟩ := hc
            obtain ⟨f1, f2, f3, f4, f5, f6, f7, f8, f9⟩ := zfs a haN
            rw [hst] at f3
            simp only [if_true] at f3
            have hG : GoodIn ztb (va_wsS (mY M).cls idx (mY a) (zws a)) := zgood_in (fun w hw => by
              unfold va_wsS at hw
              rcases List.mem_append.mp hw with hw | hw
              · simp only [List.mem_cons, List.not_mem_nil, or_false] at hw
                rcases hw with rfl | rfl | rfl
                · exact zlk_in _ (List.mem_of_getElem? hlk)
                · exact zin f3 rfl
                · exact zin f2 rfl
              · exact zws_in haN w hw)
            have hcw := va_cwS (R := R) (rm := rm) (mc := 0) (ms := 0) (ws := zws a) (bytes := mC a) (maxL := mL a) (ret := mR a) b hts hG rfl hrm.1 hrm.2.1 ⟨f5, f6, by rw [f7, hma]⟩ ⟨hrm.2.2.1, by have := hrm.2.2.2; omega⟩
            have hpre : ∀ U : State, U.heap = H → s.WarmedH U.vm → zPre ad cy D H.size as σ (as.map (zcv ad)).toArray U := fun U hU hW => ⟨rfl, by rw [hU], by rw [hU]; exact hP, va_K.moved hW.alike hK, ⟨hDj.1, fun _ _ => trivial⟩, by rw [hU]; exact ((hX.kept hS.2.1).narrow (zA.mono hS.1)).warm hW⟩
            rw [zmapr]
            refine zcallW (va_runS (As := as.map (zcv ad)) (rest := r.map (zcv ad)) ⟨hx, hb, hml, hown, hts⟩ (hE a _ σ rv σ' H.size hEv) hcw ⟨zPre.blind, hpre⟩ rfl (by rw [List.length_map]; exact hl9) hl.1 rfl (lv_room (zrm_cv hroom)) hd hcs) hS (zA.mono hS.1) (fun H1 locs1 hP1 hS1 => ?_)
            have h9 := kK _ _ _ _ h _ _ _ hl hP1 hS1
            rw [List.map_append] at h9
            cases rv <;> exact h9
  case ireturn =>
    cases zlen_of hln (k := 0) rfl
    cases a with
    | zero =>
      have h00 := zpI_e h
      clear h
      obtain ⟨x, r, rfl, h⟩ := h00
      have h00 := zpN_e h
      clear h
      obtain ⟨rfl, h⟩ := h00
      exact kQ _ _ _ h ⟨hd, Or.inl (of_decide_eq_true hc)⟩ lv _ _ _ hl hP hS
    | succ a =>
      have h00 := zpI_e h
      clear h
      obtain ⟨x, r, rfl, h⟩ := h00
      have h00 := zpN_e h
      clear h
      obtain ⟨rfl, hxx, h⟩ := h00
      exact kQ _ _ _ h ⟨hd, Or.inr ⟨of_decide_eq_true hc, hxx⟩⟩ lv _ _ _ hl hP hS
  case lreturn =>
    cases zlen_of hln (k := 0) rfl
    have h00 := zpJ_e h
    clear h
    obtain ⟨x, r, rfl, h⟩ := h00
    have h00 := zpN_e h
    clear h
    obtain ⟨rfl, h⟩ := h00
    exact kQ _ _ _ h ⟨hd, of_decide_eq_true hc⟩ lv _ _ _ hl hP hS
  case return_ =>
    cases zlen_of hln (k := 0) rfl
    have h00 := zpN_e h
    clear h
    obtain ⟨rfl, h⟩ := h00
    exact kQ _ _ _ h ⟨hd, of_decide_eq_true hc⟩ lv _ _ _ hl hP hS
  all_goals exact False.elim h
end ZSTEP
