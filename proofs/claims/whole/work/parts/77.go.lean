/-! THE CLAIM OUT OF ONE WALK OF THE LAW'S BODY. Your part is whole_start (and what it stands on); all else here is the same for every law, but numbers. -/
def R_law : String := "SleeveSlipsLaw"
def lw_P (b : Addr) (xs : List Int32) (args : Array Value) (s : State) : Prop := args = #[.ref b] ∧ s.IntsAt b xs ∧ xs.length ≤ 2560 ∧ (Jvm.Cond.and given_1 narrow_1).before args s = true
def lw_Q (_ : Array Value) (s : State) (o : Outcome) (t : State) : Prop := o = .returned (some (.int 1)) ∧ Framed s o t [] 600000 7302250
def lw_Z (below : List Frame) (a : Array Value) (s : State) : State → Prop := fun t => ∃ o, t.status = .running ∧ Ended t below o ∧ lw_Q a s o t
/-- the law's own end, with 1 on the stack, nothing written that was there before, its room as the claim has it -/
theorem lw_ret {p : Program} {l : Launch} {e : Env} {s : State} {m : MethodId} {below : List Frame} {meth : Method} {c : Code} {b : Nat} (hx : p.tables.exec = Jvm.exec) (hb : c.code = code) (hr : meth.sig.returnType = ret) (hlocks : meth.locks = false) {pc : Nat} {H : Heap} {ls : Array Slot} (hdg : decode code pc = .ok (.ireturn, 1)) : W p l e room_1 s m #[Value.ref b] below meth c H [] 600000 7302250 (lw_Z below #[Value.ref b] s) (F0 m pc ls [.int 1]) := by
  intro T hT X
  obtain ⟨fs, hret, hrun, hended, hW, hframe⟩ := X.leave (v := some (.int 1)) (hlocks := hlocks) (fun h => by rw [hr] at h; cases h)
  have hmeth' : T.vm.method? m = some meth := X.method'
  refine ⟨T.setFrames fs, ?_, .returned (some (.int 1)), hrun, hended, rfl, ⟨_, rfl⟩, hW, hframe⟩
  jvm_step X.here [X.here.top, hx, hb, hdg, hmeth', hr, ret, narrow_b1]
  (try refine ⟨rfl, ?_⟩); (try refine ⟨rfl, ?_⟩)
  first | (intro acts; rw [hret _ acts rfl rfl rfl]) | rw [hret _ _ rfl rfl rfl]
  exact Steps.refl _
/-- what holds at the law's entry: the machine, the code, the tables' words (any of lw_tbl by 'hts w (by decide +kernel)'), the script of L ints xs at the cell b, what the Statement gives of the start (any of its parts by flat_of_before) -/
def lw_At (p : Program) (s : State) (m : MethodId) (meth : Method) (c : Code) (b L : Nat) (xs : Nat → Int32) : Prop :=
  p.tables.exec = Jvm.exec ∧ c.code = code ∧ meth.sig.returnType = ret ∧ c.maxLocals = 4 ∧ s.vm.findClass R_law = some m.cls ∧ (∀ w ∈ lw_tbl, w.before #[Value.ref b] s = true) ∧ va_X b L xs s s.heap ∧ b < s.heap.size ∧ meth.locks = false ∧ (Jvm.Cond.and given_1 narrow_1).before #[Value.ref b] s = true
/-! ===== told and spare change places: the same heap ===== -/
theorem zpi_inv (c : Nat) : zpi (zpi c) = c := by
  unfold zpi
  by_cases h1 : 4 ≤ c ∧ c < 14
  · rw [if_pos h1, if_neg (by omega), if_pos (by omega)]
    omega
  · rw [if_neg h1]
    by_cases h2 : 14 ≤ c ∧ c < 24
    · rw [if_pos h2, if_pos (by omega)]
      omega
    · rw [if_neg h2, if_neg h1, if_neg h2]
theorem zpi_82 {c : Nat} (h : c < 82) : zpi c < 82 := by
  unfold zpi
  split
  · omega
  · split
    · omega
    · exact h
theorem zpi_KL : ∀ k, k < 82 → zK (zpi k) = zK k ∧ zLn (zpi k) = zLn k := by decide +kernel
theorem zpi_R28 : ∀ k, k < 82 → k ≠ 0 → ∀ j, j < 28 → zpi (zR k j) = zR (zpi k) j := by decide +kernel
theorem zR_len : ∀ k, k < 82 → (zRt.getD k []).length ≤ 28 := by decide +kernel
theorem zpi_R0 : ∀ j, j < 28 → j ≠ 1 → j ≠ 2 → zpi (zR 0 j) = zR 0 j := by decide +kernel
theorem zR_out {k j : Nat} (hk : k < 82) (hj : 28 ≤ j) : zR k j = 0 := by
  unfold zR
  rw [List.getD_eq_getElem?_getD, List.getElem?_eq_none (Nat.le_trans (zR_len k hk) hj)]
  rfl
theorem zpi_R {k j : Nat} (hk : k < 82) (h0 : k ≠ 0) : zpi (zR k j) = zR (zpi k) j := by
  by_cases hj : j < 28
  · exact zpi_R28 k hk h0 j hj
  · rw [zR_out hk (by omega), zR_out (zpi_82 hk) (by omega)]
    rfl
theorem zpi_ne0 {k : Nat} (h0 : k ≠ 0) : zpi k ≠ 0 := by
  unfold zpi
  split
  · omega
  · split
    · omega
    · exact h0
theorem zrf_sp {σ : zSt} {k j : Nat} (hk : k < 82) : zpi (zrf (zsp σ) k j) = zrf σ (zpi k) j := by
  unfold zrf
  by_cases h0 : k = 0
  · subst h0
    show zpi (if (0 : Nat) = 0 then (if j = 1 then zpi σ.2.2.1 else if j = 2 then zpi σ.2.2.2 else zR 0 j) else zR 0 j) = (if (0 : Nat) = 0 then (if j = 1 then σ.2.2.1 else if j = 2 then σ.2.2.2 else zR 0 j) else zR 0 j)
    rw [if_pos rfl, if_pos rfl]
    by_cases h1 : j = 1
    · rw [if_pos h1, if_pos h1, zpi_inv]
    · rw [if_neg h1, if_neg h1]
      by_cases h2 : j = 2
      · rw [if_pos h2, if_pos h2, zpi_inv]
      · rw [if_neg h2, if_neg h2]
        by_cases hj : j < 28
        · exact zpi_R0 j hj h1 h2
        · rw [zR_out (by decide) (by omega)]; rfl
  · rw [if_neg h0, if_neg (zpi_ne0 h0)]
    exact zpi_R hk h0
theorem zfv_sp {ad : Nat → Nat} {σ : zSt} {k j : Nat} (hk : k < 82) : zcv (fun c => ad (zpi c)) (zfv (zsp σ) k j) = zcv ad (zfv σ (zpi k) j) := by
  unfold zfv
  rw [(zpi_KL k hk).1]
  split
  · rfl
  · rfl
  · show Value.ref (ad (zpi (zrf (zsp σ) k j))) = Value.ref (ad (zrf σ (zpi k) j))
    rw [zrf_sp hk]
theorem zce_sp {ad : Nat → Nat} {cy : Nat → ClassId} {σ : zSt} {k : Nat} (hk : k < 82) : zce (fun c => ad (zpi c)) cy (zsp σ) k = zce ad cy σ (zpi k) := by
  unfold zce
  rw [(zpi_KL k hk).1, (zpi_KL k hk).2]
  simp only [zfv_sp hk]
  split
  · rfl
  · split
    · rfl
    · split
      · rfl
      · have h0 : k ≠ 0 := by
          rintro rfl
          rename_i h1 _ _
          exact h1 (by decide)
        simp only [zpi_R hk h0]
theorem zwl_sp {ad : Nat → Nat} {cy : Nat → ClassId} {D : va_G} {σ : zSt} {H : Heap} (h : va_P D vwCl (zwl ad cy σ) H) : va_P D vwCl (zwl (fun c => ad (zpi c)) cy (zsp σ)) H := by
  intro k q hq
  obtain ⟨hk, rfl⟩ := zwl_inv hq
  rw [zce_sp hk]
  exact h (zpi k) _ (zwl_at (zpi_82 hk))
theorem zA_sp {ad : Nat → Nat} {sz : Nat} : zA (fun c => ad (zpi c)) sz = zA ad sz := by
  funext q
  apply propext
  constructor
  · rintro (⟨c, hc, h⟩ | h)
    · exact Or.inl ⟨zpi c, zpi_82 hc, h⟩
    · exact Or.inr h
  · rintro (⟨c, hc, h⟩ | h)
    · exact Or.inl ⟨zpi c, zpi_82 hc, by show ad (zpi (zpi c)) = q; rw [zpi_inv]; exact h⟩
    · exact Or.inr h
theorem zX_sp {ad : Nat → Nat} {A : Nat → Prop} {U : State} {H : Heap} (h : zX ad A U H) : zX (fun c => ad (zpi c)) A U H := by
  have e : ∀ i, zpi (2000 + i) = 2000 + i := fun i => zpi_ge (by omega)
  obtain ⟨⟨adV, h1⟩, h2, h3⟩ := h
  refine ⟨⟨adV, ?_⟩, fun i hi => ?_, h3⟩
  · have : (fun i => ad (zpi (2000 + i))) = fun i => ad (2000 + i) := funext fun i => by rw [e]
    show vk_S 3 [6, 3, 5] zby (fun i => ad (zpi (2000 + i))) adV A U H
    rw [this]
    exact h1
  · show vk_R RX4 (zsi i) (zst i) (ad (zpi (2000 + i))) U
    rw [e]
    exact h2 i hi
theorem Gm.sp {S : aS} {σ : zSt} (h : Gm S σ) : Gm S (zsp σ) := h.fr ⟨fun c hc => by show σ.1 (zpi c) = _; rw [zpi_ge hc], fun c hc => by show σ.2.1 (zpi c) = _; rw [zpi_ge hc]⟩
theorem d_law_925 : decode code 925 = .ok (.iconst 1, 1) := by decide +kernel
theorem d_law_926 : decode code 926 = .ok (.ireturn, 1) := by decide +kernel
/-- a world of the law: where the cells lie -/
def lw_ad (s : State) (b : Nat) (ad : Nat → Nat) : Prop := ad 1000 = b ∧ (∀ c, c < 82 → s.heap.size ≤ ad c) ∧ (∀ i j, i < 82 → j < 82 → ad i = ad j → i = j) ∧ zX ad (fun q => s.heap.size ≤ q) s s.heap
theorem lw_ad.sp {s : State} {b : Nat} {ad : Nat → Nat} (h : lw_ad s b ad) : lw_ad s b (fun c => ad (zpi c)) := by
  obtain ⟨h1, h2, h3, h4⟩ := h
  refine ⟨?_, fun c hc => h2 _ (zpi_82 hc), fun i j hi hj e => ?_, zX_sp h4⟩
  · show ad (zpi 1000) = b
    rw [zpi_ge (by decide)]; exact h1
  · have := h3 _ _ (zpi_82 hi) (zpi_82 hj) e
    rw [← zpi_inv i, this, zpi_inv]
theorem lw_ad.A {s : State} {b : Nat} {ad : Nat → Nat} (h : lw_ad s b ad) : ∀ q, zA ad s.heap.size q → s.heap.size ≤ q := by
  rintro q (⟨c, hc, rfl⟩ | hq)
  · exact h.2.1 c hc
  · exact hq
section LAWGO
variable {p : Program} {e : Env} {s : State} {m : MethodId} {below : List Frame} {meth : Method} {c : Code} {b L : Nat} {xs : Nat → Int32} {cy : Nat → ClassId} {D : va_G}
set_option maxRecDepth 20000 in
theorem law_ctx (l : Launch) (C0 : lw_At p s m meth c b L xs) (hK : va_K D vwCl (ztys cy) s) {ad : Nat → Nat} (ha : lw_ad s b ad) : zCtx p l room_1 (zrm_room 8) s m #[Value.ref b] c 600000 7302250 (yE 8) (1, L, xs) 150 ad cy D := by
  obtain ⟨hx, hb, hr, hml, hown, hts, hX, hbl, hlocks, hgv⟩ := C0
  refine ⟨hx, hb, hml, hown, fun w hw => hts w (List.mem_filter.mp hw).1, hK, ⟨ha.2.2.1, fun i hi => Or.inl ⟨i, hi, rfl⟩⟩, ha.2.2.2.narrow ha.A, fun _ => ?_, fun m2 as2 σ2 r2 σ3 sz2 h2 => ysim (yStr_ok l) ad cy D 8 m2 as2 σ2 r2 σ3 sz2 h2, ⟨rfl, rfl, by decide, by decide⟩, ⟨Nat.le_refl _, Nat.le_refl _⟩⟩
  rw [ha.1]
  exact ⟨hX, hbl, fun z => absurd (ha.A b z) (by omega)⟩
theorem law_go (l : Launch) (hL : L ≤ 2560) (C0 : lw_At p s m meth c b L xs) (hK : va_K D vwCl (ztys cy) s) : ∀ (n i : Nat) (S : aS) (σ : zSt) (ad : Nat → Nat), L < i + n → i ≤ L → lw_ad s b ad → WfS S → Gc S σ → Gm S σ → zGo p l e room_1 s m #[Value.ref b] below meth c 600000 7302250 (lw_Z below #[Value.ref b] s) 150 ad cy D 18 [(0, .ref 1000), (1, .ref 0), (2, .ref 64), (3, .int (nI i))] [] σ
  | 0, i, S, σ, ad, hn, hi, _, _, _, _ => by omega
  | n + 1, i, S, σ, ad, hn, hi, ha, hW, g, gm => by
    obtain ⟨k, hk⟩ := law_body (xs := xs) hi hL hW g gm
    refine yrunX (law_ctx l C0 hK ha) za150 (X := LX L i) ?_ k _ _ _ _ hk
    rintro pc lv st σ' (⟨rfl, h5, rfl, rfl, S', hW', hg, hgm⟩ | ⟨rfl, rfl⟩)
    · rcases hg with hg | hg
      · exact law_go l hL C0 hK n (i + 5) S' σ' ad (by omega) h5 ha hW' hg hgm
      · have ih := law_go l hL C0 hK n (i + 5) S' (zsp σ') (fun c => ad (zpi c)) (by omega) h5 ha.sp hW' hg hgm.sp
        intro ls H locs hl hP hS
        refine ih ls H locs ?_ (zwl_sp hP) (by rw [zA_sp]; exact hS)
        exact hl
    · intro ls H locs hl hP hS
      obtain ⟨hx, hb, hr, hml, hown, hts, hX, hbl, hlocks, hgv⟩ := C0
      refine lv_iconst (v := 1) hx hb d_law_925 (by decide) ?_
      refine va_forget (fun q hq => ha.A _ (hS.2.2 q hq)) ?_
      exact lw_ret hx hb hr hlocks d_law_926
end LAWGO
