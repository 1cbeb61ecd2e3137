/-! ===== runs of my machine ===== -/
def yG (E : zEr) (SC : zSc) (tb : List (Nat × zIn)) (Q : Option Value → zSt → Prop) : Nat → zKc
  | 0 => fun _ _ _ _ => False
  | n + 1 => fun pc lv st σ => match zfind tb pc with
    | some w => zex E SC Q (yG E SC tb Q n) w pc lv st σ
    | none => False
def yX (E : zEr) (SC : zSc) (tb : List (Nat × zIn)) (Q : Option Value → zSt → Prop) (pc : Nat) (lv : zLv) (st : List Value) (σ : zSt) : Prop := ∃ n, yG E SC tb Q n pc lv st σ
/-- a run that may stop where X holds -/
def yH (E : zEr) (SC : zSc) (tb : List (Nat × zIn)) (X : zKc) : Nat → zKc
  | 0 => X
  | n + 1 => fun pc lv st σ => X pc lv st σ ∨ match zfind tb pc with
    | some w => zex E SC (fun _ _ => False) (yH E SC tb X n) w pc lv st σ
    | none => False
def ySn : zSc := (0, 0, fun _ => 0)
def ylen (k : Nat) : Nat := [6, 3, 5].getD k 0
/-- String.length, String.charAt of the three texts -/
def yprim (m : Nat) (as : List Value) (r : Option Value) : Prop :=
  if m = 148 then ∃ k, k < 3 ∧ as = [.ref (2000 + k)] ∧ r = some (.int (Int32.ofNat (ylen k)))
  else ∃ (k : Nat) (j : Int32), k < 3 ∧ as = [.ref (2000 + k), .int j] ∧ vp_in j (ylen k) ∧ r = some (.int ((zby.getD k []).getD j.toNatClampNeg 0))
def yE : Nat → zEr
  | 0 => fun _ _ _ _ _ => False
  | d + 1 => fun m as σ r σ' => if m = 148 ∨ m = 149 then 4 ≤ d ∧ yprim m as r ∧ σ' = σ
    else m < 150 ∧ (lg_sl as).length ≤ mL m ∧ yX (yE d) ySn (ztl m) (fun r2 σ2 => r2 = r ∧ σ2 = σ') 0 (lv_args 0 as) [] σ
theorem lg_cv (ad : Nat → Nat) (as : List Value) : (lg_sl (as.map (zcv ad))).length = (lg_sl as).length := by
  induction as with
  | nil => rfl
  | cons v vs ih =>
    have e : ∀ (x : Value) (l : List Value), lg_sl (x :: l) = (if x.category = 2 then [Slot.val x, Slot.second] else [Slot.val x]) ++ lg_sl l := fun x l => by simp [lg_sl]
    rw [List.map_cons, e, e, List.length_append, List.length_append, ih, zcv_cat]
    split <;> rfl
theorem zcl_args (ad : Nat → Nat) : ∀ (as : List Value) (i : Nat), zcl ad (lv_args i as) = lv_args i (as.map (zcv ad))
  | [], _ => rfl
  | v :: vs, i => by
    show (i, zcv ad v) :: zcl ad (lv_args _ vs) = (i, zcv ad v) :: lv_args _ (vs.map (zcv ad))
    rw [zcl_args ad vs, zcv_cat]
section YRUN
variable {p : Program} {l : Launch} {e : Env} {R rm : Room} {s : State} {m : MethodId} {args : Array Value} {below : List Frame} {meth : Method} {c : Code} {cells slots : Nat} {Qm : State → Prop}
variable {E : zEr} {SC : zSc} {M : Nat} {Q : Option Value → zSt → Prop} {ad : Nat → Nat} {cy : Nat → ClassId} {D : va_G}
theorem yrun (C : zCtx p l R rm s m args c cells slots E SC M ad cy D) {tb : List (Nat × zIn)} (hrows : ∀ q ∈ tb, zok M q = true)
    (kQ : ∀ rv σ' pc', Q rv σ' → zret M pc' rv → ∀ lv', zGo p l e R s m args below meth c cells slots Qm M ad cy D pc' lv' rv.toList σ') :
    ∀ (n : Nat) (pc : Nat) (lv : zLv) (st : List Value) (σ : zSt), yG E SC tb Q n pc lv st σ → zGo p l e R s m args below meth c cells slots Qm M ad cy D pc lv st σ
  | 0, pc, lv, st, σ, h => h.elim
  | n + 1, pc, lv, st, σ, h => by
    unfold yG at h
    split at h
    · rename_i w hf
      exact zstep C (hrows _ (zfind_mem hf)) h (fun pc' lv' st' σ' h' => yrun C hrows kQ n pc' lv' st' σ' h') kQ
    · exact h.elim
theorem yrunX (C : zCtx p l R rm s m args c cells slots E SC M ad cy D) {tb : List (Nat × zIn)} (hrows : ∀ q ∈ tb, zok M q = true) {X : zKc}
    (kX : ∀ pc lv st σ, X pc lv st σ → zGo p l e R s m args below meth c cells slots Qm M ad cy D pc lv st σ) :
    ∀ (n : Nat) (pc : Nat) (lv : zLv) (st : List Value) (σ : zSt), yH E SC tb X n pc lv st σ → zGo p l e R s m args below meth c cells slots Qm M ad cy D pc lv st σ
  | 0, pc, lv, st, σ, h => kX _ _ _ _ h
  | n + 1, pc, lv, st, σ, h => by
    unfold yH at h
    rcases h with h | h
    · exact kX _ _ _ _ h
    · split at h
      · rename_i w hf
        exact zstep C (hrows _ (zfind_mem hf)) h (fun pc' lv' st' σ' h' => yrunX C hrows kX n pc' lv' st' σ' h') (fun _ _ _ h => h.elim)
      · exact h.elim
end YRUN
/-- the contracts of the two methods of String, to be walked by hand -/
def yStr (l : Launch) : Prop := ∀ (m : Nat) (as : List Value) (r : Option Value) (d : Nat) (ad : Nat → Nat) (cy : Nat → ClassId) (D : va_G) (sz : Nat) (σ : zSt), (m = 148 ∨ m = 149) → 4 ≤ d → yprim m as r → Met l (mY m) (zws m) (zrm_room (d + 1)) (zPre ad cy D sz as σ) (zPost ad cy D sz r σ) 0 0 (zA ad sz)
set_option maxHeartbeats 4000000 in
theorem ysim {l : Launch} (hStr : yStr l) (ad : Nat → Nat) (cy : Nat → ClassId) (D : va_G) : ∀ (d m : Nat) (as : List Value) (σ : zSt) (r : Option Value) (σ' : zSt) (sz : Nat), yE d m as σ r σ' → Met l (mY m) (zws m) (zrm_room d) (zPre ad cy D sz as σ) (zPost ad cy D sz r σ') 0 0 (zA ad sz)
  | 0, _, _, _, _, _, _, h => h.elim
  | d + 1, m, as, σ, r, σ', sz, h => by
    unfold yE at h
    by_cases hm : m = 148 ∨ m = 149
    · rw [if_pos hm] at h
      obtain ⟨h1, h2, rfl⟩ := h
      exact hStr m as r d ad cy D sz _ hm h1 h2
    · rw [if_neg hm] at h
      obtain ⟨hmN, hlg, n, hrun⟩ := h
      obtain ⟨f1, f2, f3, f4, f5, f6, f7, f8, f9⟩ := zfs m hmN
      refine Met.ofW (cc := mC m) (maxL := mL m) (ret := mR m) f4 rfl ?_
      intro p e s mm args below meth c s₁ B hml hv
      obtain ⟨rfl, hsz, hP, hK, hDj, hX⟩ := hv
      have hx := B.exec
      have hb := B.bytes
      have hr := B.returns
      have hlocks := B.notSynchronized
      have hts : ∀ w ∈ ztb, w.before (as.map (zcv ad)).toArray s = true := fun w hw => atoms_spec (ws := zws m) B.pre w (List.mem_cons_of_mem _ hw)
      have hown : s.vm.findClass (mY m).cls = some mm.cls := findClass_of_methodNamed B.named
      subst hsz
      have C : zCtx p l (headSpec (zws m) (zrm_room (d + 1))).room (zrm_room d) s mm (as.map (zcv ad)).toArray c 0 0 (yE d) ySn m ad cy D :=
        ⟨hx, hb, hml, hown, hts, hK, ⟨hDj.1, fun i hi => Or.inl ⟨i, hi, rfl⟩⟩, hX, fun z => absurd z (show ¬ (0 : Nat) = 1 by decide), fun m2 as2 σ2 r2 σ3 sz2 h2 => ysim hStr ad cy D d m2 as2 σ2 r2 σ3 sz2 h2, ⟨rfl, rfl, Nat.le_refl _, by show 35 * d + 35 ≤ 35 * (d + 1); omega⟩, Nat.le_refl _, Nat.le_refl _⟩
      have hlg2 : (lg_sl (as.map (zcv ad))).length ≤ mL m := by rw [lg_cv]; exact hlg
      have hl := lv_entry (as.map (zcv ad)) (n := mL m) hlg2
      rw [lg_entry_eq]
      rw [← zcl_args] at hl
      refine yrun (Q := fun r2 σ2 => r2 = r ∧ σ2 = σ') C (zas m hmN) (fun rv σ9 pc' hq hret lv' ls H locs hl9 hP9 hS9 => ?_) n 0 (lv_args 0 as) [] σ hrun _ _ _ hl hP va_S.rf
      obtain ⟨rfl, rfl⟩ := hq
      have hpost : ∀ t : State, t.heap = H → zPost ad cy D s.heap.size rv σ9 (as.map (zcv ad)).toArray s (.returned (rv.map (zcv ad))) t := fun t ht => ⟨⟨rfl, by rw [ht]; exact hP9⟩, hS9.F ht⟩
      cases rv with
      | none => exact W.vret hx hb (hr.trans hret.2) (fun t ht _ => hpost t ht) hS9.2.2 hret.1
      | some v =>
        cases v with
        | int x =>
          rcases hret.2 with h1 | ⟨h1, h2⟩
          · exact W.iret (v := x) hx hb (hr.trans h1) (fun t ht _ => hpost t ht) hS9.2.2 hret.1
          · exact W.zret (v := x) hx hb (hr.trans h1) (by rcases h2 with rfl | rfl <;> rfl) (fun t ht _ => hpost t ht) hS9.2.2 hret.1
        | long x => exact W.lret (v := x) hx hb (hr.trans hret.2) (fun t ht _ => hpost t ht) hS9.2.2 hret.1
        | _ => exact False.elim hret
