theorem zldI_i {lv : zLv} {i : Nat} {F : Int32 → Prop} {x : Int32} (h : zlk lv i = some (.int x)) (k : F x) : zldI lv i F := by
  unfold zldI
  rw [h]
  exact k
theorem zldJ_i {lv : zLv} {i : Nat} {F : Int64 → Prop} {x : Int64} (h : zlk lv i = some (.long x)) (k : F x) : zldJ lv i F := by
  unfold zldJ
  rw [h]
  exact k
theorem zldR_i {lv : zLv} {i : Nat} {F : Nat → Prop} {x : Nat} (h : zlk lv i = some (.ref x)) (k : F x) : zldR lv i F := by
  unfold zldR
  rw [h]
  exact k
theorem zbr_one {c : Jvm.ClassFile.Cond} {x y : Int32} {A B : Prop} (h : zbr c x y A B) : (A ∧ ∀ A' B' : Prop, A' → zbr c x y A' B') ∨ (B ∧ ∀ A' B' : Prop, B' → zbr c x y A' B') := by
  cases c
  case eq =>
    by_cases e : x = y
    · exact Or.inl ⟨h.1 e, fun A' B' k => ⟨fun _ => k, fun z => absurd e z⟩⟩
    · exact Or.inr ⟨h.2 e, fun A' B' k => ⟨fun z => absurd z e, fun _ => k⟩⟩
  case ne =>
    by_cases e : x = y
    · exact Or.inr ⟨h.2 e, fun A' B' k => ⟨fun z => absurd e z, fun _ => k⟩⟩
    · exact Or.inl ⟨h.1 e, fun A' B' k => ⟨fun _ => k, fun z => absurd z e⟩⟩
  case lt =>
    by_cases e : x < y
    · exact Or.inl ⟨h.1 e, fun A' B' k => ⟨fun _ => k, fun z => absurd e z⟩⟩
    · exact Or.inr ⟨h.2 e, fun A' B' k => ⟨fun z => absurd z e, fun _ => k⟩⟩
  case ge =>
    by_cases e : y ≤ x
    · exact Or.inl ⟨h.1 e, fun A' B' k => ⟨fun _ => k, fun z => absurd e z⟩⟩
    · exact Or.inr ⟨h.2 e, fun A' B' k => ⟨fun z => absurd z e, fun _ => k⟩⟩
  case gt =>
    by_cases e : y < x
    · exact Or.inl ⟨h.1 e, fun A' B' k => ⟨fun _ => k, fun z => absurd e z⟩⟩
    · exact Or.inr ⟨h.2 e, fun A' B' k => ⟨fun z => absurd z e, fun _ => k⟩⟩
  case le =>
    by_cases e : x ≤ y
    · exact Or.inl ⟨h.1 e, fun A' B' k => ⟨fun _ => k, fun z => absurd e z⟩⟩
    · exact Or.inr ⟨h.2 e, fun A' B' k => ⟨fun z => absurd z e, fun _ => k⟩⟩
theorem zsw_one {x : Int32} {F : Nat → Prop} {d : Nat} : ∀ {ts : List (Int32 × Nat)}, zsw x F d ts → ∃ t, F t ∧ ∀ F' : Nat → Prop, F' t → zsw x F' d ts
  | [], h => ⟨d, h, fun _ k => k⟩
  | q :: ts, h => by
    unfold zsw at h
    by_cases e : x = q.1
    · exact ⟨q.2, h.1 e, fun F' k => ⟨fun _ => k, fun z => absurd e z⟩⟩
    · obtain ⟨t, h1, h2⟩ := zsw_one (h.2 e)
      exact ⟨t, h1, fun F' k => ⟨fun z => absurd z e, fun _ => h2 F' k⟩⟩
theorem zpop_i : ∀ {n : Nat} {as acc r : List Value} {F : List Value → List Value → Prop}, as.length = n → F (as ++ acc) r → zpop n acc (as.reverse ++ r) F
  | 0, as, acc, r, F, h, k => by
    cases as with
    | nil => exact k
    | cons a l => cases h
  | n + 1, as, acc, r, F, h, k => by
    rcases List.eq_nil_or_concat as with rfl | ⟨l, a, rfl⟩
    · cases h
    · rw [List.concat_eq_append] at h k ⊢
      rw [List.reverse_append]
      show zpop n (a :: acc) (l.reverse ++ r) F
      refine zpop_i (by simpa using h) ?_
      rw [List.append_assoc] at k
      exact k
set_option maxHeartbeats 8000000 in
set_option maxRecDepth 100000 in
theorem zex_one {E : zEr} {SC : zSc} {Q : Option Value → zSt → Prop} {K : zKc} {w : zIn} {pc : Nat} {lv : zLv} {st : List Value} {σ : zSt} (h : zex E SC Q K w pc lv st σ) :
    (∃ pc' lv' st' σ', K pc' lv' st' σ' ∧ ∀ (K' : zKc) (Q' : Option Value → zSt → Prop), K' pc' lv' st' σ' → zex E SC Q' K' w pc lv st σ) ∨ (∃ rv σ', Q rv σ' ∧ ∀ (K' : zKc) (Q' : Option Value → zSt → Prop), Q' rv σ' → zex E SC Q' K' w pc lv st σ) := by
  obtain ⟨i, len, a, b, n, v, ts⟩ := w
  unfold zex at h ⊢
  cases i
  all_goals (try dsimp only at h ⊢)
  case iconst z =>
    exact Or.inl ⟨_, _, _, _, h, fun K' Q' h' => h'⟩
  case bipush z =>
    exact Or.inl ⟨_, _, _, _, h, fun K' Q' h' => h'⟩
  case sipush z =>
    exact Or.inl ⟨_, _, _, _, h, fun K' Q' h' => h'⟩
  case lconst z =>
    exact Or.inl ⟨_, _, _, _, h, fun K' Q' h' => h'⟩
  case ldc_w z =>
    exact Or.inl ⟨_, _, _, _, h, fun K' Q' h' => h'⟩
  case ldc2_w z =>
    exact Or.inl ⟨_, _, _, _, h, fun K' Q' h' => h'⟩
  case ldc z =>
    cases a with
    | zero => exact Or.inl ⟨_, _, _, _, h, fun K' Q' h' => h'⟩
    | succ a => exact Or.inl ⟨_, _, _, _, h, fun K' Q' h' => h'⟩
  case iload_n z =>
    have h00 := zldI_e h
    clear h
    obtain ⟨x, h1, h⟩ := h00
    exact Or.inl ⟨_, _, _, _, h, fun K' Q' h' => zldI_i h1 h'⟩
  case iload z =>
    have h00 := zldI_e h
    clear h
    obtain ⟨x, h1, h⟩ := h00
    exact Or.inl ⟨_, _, _, _, h, fun K' Q' h' => zldI_i h1 h'⟩
  case lload_n z =>
    have h00 := zldJ_e h
    clear h
    obtain ⟨x, h1, h⟩ := h00
    exact Or.inl ⟨_, _, _, _, h, fun K' Q' h' => zldJ_i h1 h'⟩
  case lload z =>
    have h00 := zldJ_e h
    clear h
    obtain ⟨x, h1, h⟩ := h00
    exact Or.inl ⟨_, _, _, _, h, fun K' Q' h' => zldJ_i h1 h'⟩
  case aload_n z =>
    have h00 := zldR_e h
    clear h
    obtain ⟨x, h1, h⟩ := h00
    exact Or.inl ⟨_, _, _, _, h, fun K' Q' h' => zldR_i h1 h'⟩
  case aload z =>
    have h00 := zldR_e h
    clear h
    obtain ⟨x, h1, h⟩ := h00
    exact Or.inl ⟨_, _, _, _, h, fun K' Q' h' => zldR_i h1 h'⟩
  case iinc z d =>
    have h00 := zldI_e h
    clear h
    obtain ⟨x, h1, h⟩ := h00
    exact Or.inl ⟨_, _, _, _, h, fun K' Q' h' => zldI_i h1 h'⟩
  case istore_n z =>
    have h00 := zpI_e h
    clear h
    obtain ⟨x, r, rfl, h⟩ := h00
    exact Or.inl ⟨_, _, _, _, h, fun K' Q' h' => h'⟩
  case istore z =>
    have h00 := zpI_e h
    clear h
    obtain ⟨x, r, rfl, h⟩ := h00
    exact Or.inl ⟨_, _, _, _, h, fun K' Q' h' => h'⟩
  case lstore_n z =>
    have h00 := zpJ_e h
    clear h
    obtain ⟨x, r, rfl, h⟩ := h00
    exact Or.inl ⟨_, _, _, _, h, fun K' Q' h' => h'⟩
  case lstore z =>
    have h00 := zpJ_e h
    clear h
    obtain ⟨x, r, rfl, h⟩ := h00
    exact Or.inl ⟨_, _, _, _, h, fun K' Q' h' => h'⟩
  case astore_n z =>
    have h00 := zpR_e h
    clear h
    obtain ⟨x, r, rfl, h⟩ := h00
    exact Or.inl ⟨_, _, _, _, h, fun K' Q' h' => h'⟩
  case astore z =>
    have h00 := zpR_e h
    clear h
    obtain ⟨x, r, rfl, h⟩ := h00
    exact Or.inl ⟨_, _, _, _, h, fun K' Q' h' => h'⟩
  case iadd =>
    have h00 := zpI_e h
    clear h
    obtain ⟨y, r, rfl, h⟩ := h00
    have h00 := zpI_e h
    clear h
    obtain ⟨x, r, rfl, h⟩ := h00
    exact Or.inl ⟨_, _, _, _, h, fun K' Q' h' => h'⟩
  case isub =>
    have h00 := zpI_e h
    clear h
    obtain ⟨y, r, rfl, h⟩ := h00
    have h00 := zpI_e h
    clear h
    obtain ⟨x, r, rfl, h⟩ := h00
    exact Or.inl ⟨_, _, _, _, h, fun K' Q' h' => h'⟩
  case imul =>
    have h00 := zpI_e h
    clear h
    obtain ⟨y, r, rfl, h⟩ := h00
    have h00 := zpI_e h
    clear h
    obtain ⟨x, r, rfl, h⟩ := h00
    exact Or.inl ⟨_, _, _, _, h, fun K' Q' h' => h'⟩
  case iand =>
    have h00 := zpI_e h
    clear h
    obtain ⟨y, r, rfl, h⟩ := h00
    have h00 := zpI_e h
    clear h
    obtain ⟨x, r, rfl, h⟩ := h00
    exact Or.inl ⟨_, _, _, _, h, fun K' Q' h' => h'⟩
  case ior =>
    have h00 := zpI_e h
    clear h
    obtain ⟨y, r, rfl, h⟩ := h00
    have h00 := zpI_e h
    clear h
    obtain ⟨x, r, rfl, h⟩ := h00
    exact Or.inl ⟨_, _, _, _, h, fun K' Q' h' => h'⟩
  case ixor =>
    have h00 := zpI_e h
    clear h
    obtain ⟨y, r, rfl, h⟩ := h00
    have h00 := zpI_e h
    clear h
    obtain ⟨x, r, rfl, h⟩ := h00
    exact Or.inl ⟨_, _, _, _, h, fun K' Q' h' => h'⟩
  case ishl =>
    have h00 := zpI_e h
    clear h
    obtain ⟨y, r, rfl, h⟩ := h00
    have h00 := zpI_e h
    clear h
    obtain ⟨x, r, rfl, h⟩ := h00
    exact Or.inl ⟨_, _, _, _, h, fun K' Q' h' => h'⟩
  case ishr =>
    have h00 := zpI_e h
    clear h
    obtain ⟨y, r, rfl, h⟩ := h00
    have h00 := zpI_e h
    clear h
    obtain ⟨x, r, rfl, h⟩ := h00
    exact Or.inl ⟨_, _, _, _, h, fun K' Q' h' => h'⟩
  case iushr =>
    have h00 := zpI_e h
    clear h
    obtain ⟨y, r, rfl, h⟩ := h00
    have h00 := zpI_e h
    clear h
    obtain ⟨x, r, rfl, h⟩ := h00
    exact Or.inl ⟨_, _, _, _, h, fun K' Q' h' => h'⟩
  case ladd =>
    have h00 := zpJ_e h
    clear h
    obtain ⟨y, r, rfl, h⟩ := h00
    have h00 := zpJ_e h
    clear h
    obtain ⟨x, r, rfl, h⟩ := h00
    exact Or.inl ⟨_, _, _, _, h, fun K' Q' h' => h'⟩
  case lsub =>
    have h00 := zpJ_e h
    clear h
    obtain ⟨y, r, rfl, h⟩ := h00
    have h00 := zpJ_e h
    clear h
    obtain ⟨x, r, rfl, h⟩ := h00
    exact Or.inl ⟨_, _, _, _, h, fun K' Q' h' => h'⟩
  case lmul =>
    have h00 := zpJ_e h
    clear h
    obtain ⟨y, r, rfl, h⟩ := h00
    have h00 := zpJ_e h
    clear h
    obtain ⟨x, r, rfl, h⟩ := h00
    exact Or.inl ⟨_, _, _, _, h, fun K' Q' h' => h'⟩
  case land =>
    have h00 := zpJ_e h
    clear h
    obtain ⟨y, r, rfl, h⟩ := h00
    have h00 := zpJ_e h
    clear h
    obtain ⟨x, r, rfl, h⟩ := h00
    exact Or.inl ⟨_, _, _, _, h, fun K' Q' h' => h'⟩
  case lor =>
    have h00 := zpJ_e h
    clear h
    obtain ⟨y, r, rfl, h⟩ := h00
    have h00 := zpJ_e h
    clear h
    obtain ⟨x, r, rfl, h⟩ := h00
    exact Or.inl ⟨_, _, _, _, h, fun K' Q' h' => h'⟩
  case lcmp =>
    have h00 := zpJ_e h
    clear h
    obtain ⟨y, r, rfl, h⟩ := h00
    have h00 := zpJ_e h
    clear h
    obtain ⟨x, r, rfl, h⟩ := h00
    exact Or.inl ⟨_, _, _, _, h, fun K' Q' h' => h'⟩
  case lshl =>
    have h00 := zpI_e h
    clear h
    obtain ⟨y, r, rfl, h⟩ := h00
    have h00 := zpJ_e h
    clear h
    obtain ⟨x, r, rfl, h⟩ := h00
    exact Or.inl ⟨_, _, _, _, h, fun K' Q' h' => h'⟩
  case lshr =>
    have h00 := zpI_e h
    clear h
    obtain ⟨y, r, rfl, h⟩ := h00
    have h00 := zpJ_e h
    clear h
    obtain ⟨x, r, rfl, h⟩ := h00
    exact Or.inl ⟨_, _, _, _, h, fun K' Q' h' => h'⟩
  case lushr =>
    have h00 := zpI_e h
    clear h
    obtain ⟨y, r, rfl, h⟩ := h00
    have h00 := zpJ_e h
    clear h
    obtain ⟨x, r, rfl, h⟩ := h00
    exact Or.inl ⟨_, _, _, _, h, fun K' Q' h' => h'⟩
  case idiv =>
    have h00 := zpI_e h
    clear h
    obtain ⟨y, r, rfl, h⟩ := h00
    have h00 := zpI_e h
    clear h
    obtain ⟨x, r, rfl, h0, h⟩ := h00
    exact Or.inl ⟨_, _, _, _, h, fun K' Q' h' => ⟨h0, h'⟩⟩
  case irem =>
    have h00 := zpI_e h
    clear h
    obtain ⟨y, r, rfl, h⟩ := h00
    have h00 := zpI_e h
    clear h
    obtain ⟨x, r, rfl, h0, h⟩ := h00
    exact Or.inl ⟨_, _, _, _, h, fun K' Q' h' => ⟨h0, h'⟩⟩
  case ldiv =>
    have h00 := zpJ_e h
    clear h
    obtain ⟨y, r, rfl, h⟩ := h00
    have h00 := zpJ_e h
    clear h
    obtain ⟨x, r, rfl, h0, h⟩ := h00
    exact Or.inl ⟨_, _, _, _, h, fun K' Q' h' => ⟨h0, h'⟩⟩
  case lrem =>
    have h00 := zpJ_e h
    clear h
    obtain ⟨y, r, rfl, h⟩ := h00
    have h00 := zpJ_e h
    clear h
    obtain ⟨x, r, rfl, h0, h⟩ := h00
    exact Or.inl ⟨_, _, _, _, h, fun K' Q' h' => ⟨h0, h'⟩⟩
  case i2l =>
    have h00 := zpI_e h
    clear h
    obtain ⟨x, r, rfl, h⟩ := h00
    exact Or.inl ⟨_, _, _, _, h, fun K' Q' h' => h'⟩
  case l2i =>
    have h00 := zpJ_e h
    clear h
    obtain ⟨x, r, rfl, h⟩ := h00
    exact Or.inl ⟨_, _, _, _, h, fun K' Q' h' => h'⟩
  case i2b =>
    have h00 := zpI_e h
    clear h
    obtain ⟨x, r, rfl, h⟩ := h00
    exact Or.inl ⟨_, _, _, _, h, fun K' Q' h' => h'⟩
  case dup =>
    unfold zdup at h ⊢
    split at h
    · exact Or.inl ⟨_, _, _, _, h, fun K' Q' h' => h'⟩
    · exact Or.inl ⟨_, _, _, _, h, fun K' Q' h' => h'⟩
    · exact h.elim
  case dup2 =>
    unfold zdup2 at h ⊢
    split at h
    · exact Or.inl ⟨_, _, _, _, h, fun K' Q' h' => h'⟩
    · exact Or.inl ⟨_, _, _, _, h, fun K' Q' h' => h'⟩
    · exact h.elim
  case goto off =>
    exact Or.inl ⟨_, _, _, _, h, fun K' Q' h' => h'⟩
  case ifCond cd off =>
    have h00 := zpI_e h
    clear h
    obtain ⟨x, r, rfl, h⟩ := h00
    rcases zbr_one h with ⟨h, k⟩ | ⟨h, k⟩
    · exact Or.inl ⟨_, _, _, _, h, fun K' Q' h' => k _ _ h'⟩
    · exact Or.inl ⟨_, _, _, _, h, fun K' Q' h' => k _ _ h'⟩
  case if_icmp cd off =>
    have h00 := zpI_e h
    clear h
    obtain ⟨y, r, rfl, h⟩ := h00
    have h00 := zpI_e h
    clear h
    obtain ⟨x, r, rfl, h⟩ := h00
    rcases zbr_one h with ⟨h, k⟩ | ⟨h, k⟩
    · exact Or.inl ⟨_, _, _, _, h, fun K' Q' h' => k _ _ h'⟩
    · exact Or.inl ⟨_, _, _, _, h, fun K' Q' h' => k _ _ h'⟩
  case tableswitch d lo hi offs =>
    have h00 := zpI_e h
    clear h
    obtain ⟨x, r, rfl, h⟩ := h00
    obtain ⟨t, h, k⟩ := zsw_one h
    exact Or.inl ⟨_, _, _, _, h, fun K' Q' h' => k (fun t => K' t lv r σ) h'⟩
  case lookupswitch d ps =>
    have h00 := zpI_e h
    clear h
    obtain ⟨x, r, rfl, h⟩ := h00
    obtain ⟨t, h, k⟩ := zsw_one h
    exact Or.inl ⟨_, _, _, _, h, fun K' Q' h' => k (fun t => K' t lv r σ) h'⟩
  case getfield idx =>
    have h00 := zpR_e h
    clear h
    obtain ⟨c9, r, rfl, h0, h⟩ := h00
    exact Or.inl ⟨_, _, _, _, h, fun K' Q' h' => ⟨h0, h'⟩⟩
  case putfield idx =>
    generalize zT a b = t at h ⊢
    cases t with
    | zero =>
      have h00 := zpI_e h
      clear h
      obtain ⟨x, r, rfl, h⟩ := h00
      have h00 := zpR_e h
      clear h
      obtain ⟨c9, r, rfl, h0, h⟩ := h00
      exact Or.inl ⟨_, _, _, _, h, fun K' Q' h' => ⟨h0, h'⟩⟩
    | succ t =>
      cases t with
      | zero =>
        have h00 := zpJ_e h
        clear h
        obtain ⟨x, r, rfl, h⟩ := h00
        have h00 := zpR_e h
        clear h
        obtain ⟨c9, r, rfl, h0, h⟩ := h00
        exact Or.inl ⟨_, _, _, _, h, fun K' Q' h' => ⟨h0, h'⟩⟩
      | succ t =>
        have h00 := zpR_e h
        clear h
        obtain ⟨x, r, rfl, h⟩ := h00
        have h00 := zpR_e h
        clear h
        obtain ⟨c9, r, rfl, h0, h⟩ := h00
        exact Or.inl ⟨_, _, _, _, h, fun K' Q' h' => ⟨h0, h'⟩⟩
  case iaload =>
    cases a with
    | zero =>
      have h00 := zpI_e h
      clear h
      obtain ⟨j, r, rfl, h⟩ := h00
      have h00 := zpR_e h
      clear h
      obtain ⟨c9, r, rfl, h0, h⟩ := h00
      exact Or.inl ⟨_, _, _, _, h, fun K' Q' h' => ⟨h0, h'⟩⟩
    | succ a =>
      have h00 := zpI_e h
      clear h
      obtain ⟨j, r, rfl, h⟩ := h00
      have h00 := zpR_e h
      clear h
      obtain ⟨c9, r, rfl, h0, h⟩ := h00
      exact Or.inl ⟨_, _, _, _, h, fun K' Q' h' => ⟨h0, h'⟩⟩
  case baload =>
    have h00 := zpI_e h
    clear h
    obtain ⟨j, r, rfl, h⟩ := h00
    have h00 := zpR_e h
    clear h
    obtain ⟨c9, r, rfl, h0, h⟩ := h00
    exact Or.inl ⟨_, _, _, _, h, fun K' Q' h' => ⟨h0, h'⟩⟩
  case laload =>
    have h00 := zpI_e h
    clear h
    obtain ⟨j, r, rfl, h⟩ := h00
    have h00 := zpR_e h
    clear h
    obtain ⟨c9, r, rfl, h0, h⟩ := h00
    exact Or.inl ⟨_, _, _, _, h, fun K' Q' h' => ⟨h0, h'⟩⟩
  case aaload =>
    have h00 := zpI_e h
    clear h
    obtain ⟨j, r, rfl, h⟩ := h00
    have h00 := zpR_e h
    clear h
    obtain ⟨c9, r, rfl, h0, h⟩ := h00
    exact Or.inl ⟨_, _, _, _, h, fun K' Q' h' => ⟨h0, h'⟩⟩
  case iastore =>
    have h00 := zpI_e h
    clear h
    obtain ⟨x, r, rfl, h⟩ := h00
    have h00 := zpI_e h
    clear h
    obtain ⟨j, r, rfl, h⟩ := h00
    have h00 := zpR_e h
    clear h
    obtain ⟨c9, r, rfl, h0, h⟩ := h00
    exact Or.inl ⟨_, _, _, _, h, fun K' Q' h' => ⟨h0, h'⟩⟩
  case bastore =>
    cases a with
    | zero =>
      have h00 := zpI_e h
      clear h
      obtain ⟨x, r, rfl, h⟩ := h00
      have h00 := zpI_e h
      clear h
      obtain ⟨j, r, rfl, h⟩ := h00
      have h00 := zpR_e h
      clear h
      obtain ⟨c9, r, rfl, h0, h⟩ := h00
      exact Or.inl ⟨_, _, _, _, h, fun K' Q' h' => ⟨h0, h'⟩⟩
    | succ a =>
      have h00 := zpI_e h
      clear h
      obtain ⟨x, r, rfl, h⟩ := h00
      have h00 := zpI_e h
      clear h
      obtain ⟨j, r, rfl, h⟩ := h00
      have h00 := zpR_e h
      clear h
      obtain ⟨c9, r, rfl, h0, h⟩ := h00
      exact Or.inl ⟨_, _, _, _, h, fun K' Q' h' => ⟨h0, h'⟩⟩
  case lastore =>
    have h00 := zpJ_e h
    clear h
    obtain ⟨x, r, rfl, h⟩ := h00
    have h00 := zpI_e h
    clear h
    obtain ⟨j, r, rfl, h⟩ := h00
    have h00 := zpR_e h
    clear h
    obtain ⟨c9, r, rfl, h0, h⟩ := h00
    exact Or.inl ⟨_, _, _, _, h, fun K' Q' h' => ⟨h0, h'⟩⟩
  case arraylength =>
    cases a with
    | zero =>
      have h00 := zpR_e h
      clear h
      obtain ⟨c9, r, rfl, h0, h⟩ := h00
      exact Or.inl ⟨_, _, _, _, h, fun K' Q' h' => ⟨h0, h'⟩⟩
    | succ a =>
      have h00 := zpR_e h
      clear h
      obtain ⟨c9, r, rfl, h0, h⟩ := h00
      exact Or.inl ⟨_, _, _, _, h, fun K' Q' h' => ⟨h0, h'⟩⟩
  case invokevirtual idx =>
    have h00 := zpop_e h
    clear h
    obtain ⟨as, r, hl9, rfl, h⟩ := h00
    have h00 := zpR_e h
    clear h
    obtain ⟨c9, r, rfl, h0, rv, σ', hE, h⟩ := h00
    exact Or.inl ⟨_, _, _, _, h, fun K' Q' h' => zpop_i hl9 ⟨h0, rv, σ', hE, h'⟩⟩
  case invokestatic idx =>
    cases e0 : Nat.beq a 900 with
    | true =>
      simp only [e0, cond_true] at h ⊢
      have h00 := zpI_e h
      clear h
      obtain ⟨n9, r, rfl, h⟩ := h00
      have h00 := zpI_e h
      clear h
      obtain ⟨dp, r, rfl, h⟩ := h00
      have h00 := zpR_e h
      clear h
      obtain ⟨c1, r, rfl, h⟩ := h00
      have h00 := zpI_e h
      clear h
      obtain ⟨sp, r, rfl, h⟩ := h00
      have h00 := zpR_e h
      clear h
      obtain ⟨c0, r, rfl, h0, h⟩ := h00
      exact Or.inl ⟨_, _, _, _, h, fun K' Q' h' => ⟨h0, h'⟩⟩
    | false =>
      simp only [e0, cond_false] at h ⊢
      cases e1 : Nat.beq a 901 with
      | true =>
        simp only [e1, cond_true] at h ⊢
        have h00 := zpI_e h
        clear h
        obtain ⟨y, r, rfl, h⟩ := h00
        have h00 := zpI_e h
        clear h
        obtain ⟨x, r, rfl, h0, h⟩ := h00
        exact Or.inl ⟨_, _, _, _, h, fun K' Q' h' => ⟨h0, h'⟩⟩
      | false =>
        simp only [e1, cond_false] at h ⊢
        cases e2 : Nat.beq a 902 with
        | true =>
          simp only [e2, cond_true] at h ⊢
          have h00 := zpI_e h
          clear h
          obtain ⟨y, r, rfl, h⟩ := h00
          have h00 := zpI_e h
          clear h
          obtain ⟨x, r, rfl, h0, h⟩ := h00
          exact Or.inl ⟨_, _, _, _, h, fun K' Q' h' => ⟨h0, h'⟩⟩
        | false =>
          simp only [e2, cond_false] at h ⊢
          cases e3 : Nat.beq a 903 with
          | true =>
            simp only [e3, cond_true] at h ⊢
            have h00 := zpJ_e h
            clear h
            obtain ⟨y, r, rfl, h⟩ := h00
            have h00 := zpJ_e h
            clear h
            obtain ⟨x, r, rfl, h0, h⟩ := h00
            exact Or.inl ⟨_, _, _, _, h, fun K' Q' h' => ⟨h0, h'⟩⟩
          | false =>
            simp only [e3, cond_false] at h ⊢
            have h00 := zpop_e h
            clear h
            obtain ⟨as, r, hl9, rfl, h0, rv, σ', hE, h⟩ := h00
            exact Or.inl ⟨_, _, _, _, h, fun K' Q' h' => zpop_i hl9 ⟨h0, rv, σ', hE, h'⟩⟩
  case ireturn =>
    cases a with
    | zero =>
      have h00 := zpI_e h
      clear h
      obtain ⟨x, r, rfl, h⟩ := h00
      have h00 := zpN_e h
      clear h
      obtain ⟨rfl, h⟩ := h00
      exact Or.inr ⟨_, _, h, fun K' Q' h' => h'⟩
    | succ a =>
      have h00 := zpI_e h
      clear h
      obtain ⟨x, r, rfl, h⟩ := h00
      have h00 := zpN_e h
      clear h
      obtain ⟨rfl, h0, h⟩ := h00
      exact Or.inr ⟨_, _, h, fun K' Q' h' => ⟨h0, h'⟩⟩
  case lreturn =>
    have h00 := zpJ_e h
    clear h
    obtain ⟨x, r, rfl, h⟩ := h00
    have h00 := zpN_e h
    clear h
    obtain ⟨rfl, h⟩ := h00
    exact Or.inr ⟨_, _, h, fun K' Q' h' => h'⟩
  case return_ =>
    have h00 := zpN_e h
    clear h
    obtain ⟨rfl, h⟩ := h00
    exact Or.inr ⟨_, _, h, fun K' Q' h' => h'⟩
  all_goals exact False.elim h
theorem yX_at {E : zEr} {SC : zSc} {tb : List (Nat × zIn)} {Q : Option Value → zSt → Prop} {pc : Nat} {lv : zLv} {st : List Value} {σ : zSt} (w : zIn) (hf : zfind tb pc = some w) : yX E SC tb Q pc lv st σ ↔ zex E SC Q (yX E SC tb Q) w pc lv st σ := by
  constructor
  · rintro ⟨n, h⟩
    cases n with
    | zero => exact h.elim
    | succ n =>
      unfold yG at h
      rw [hf] at h
      rcases zex_one h with ⟨pc', lv', st', σ', h1, h2⟩ | ⟨rv, σ', h1, h2⟩
      · exact h2 _ _ ⟨n, h1⟩
      · exact h2 _ _ h1
  · intro h
    rcases zex_one h with ⟨pc', lv', st', σ', ⟨n, h1⟩, h2⟩ | ⟨rv, σ', h1, h2⟩
    · refine ⟨n + 1, ?_⟩
      unfold yG
      rw [hf]
      exact h2 _ _ h1
    · refine ⟨1, ?_⟩
      unfold yG
      rw [hf]
      exact h2 _ _ h1
theorem yG_one {E : zEr} {SC : zSc} {tb : List (Nat × zIn)} {Q : Option Value → zSt → Prop} : ∀ {n pc : Nat} {lv : zLv} {st : List Value} {σ : zSt}, yG E SC tb Q n pc lv st σ → ∃ r σ', Q r σ' ∧ yG E SC tb (fun r2 σ2 => r2 = r ∧ σ2 = σ') n pc lv st σ
  | 0, _, _, _, _, h => h.elim
  | n + 1, pc, lv, st, σ, h => by
    unfold yG at h
    split at h
    · rename_i w hf
      rcases zex_one h with ⟨pc', lv', st', σ', h1, h2⟩ | ⟨rv, σ', h1, h2⟩
      · obtain ⟨r, σ9, h3, h4⟩ := yG_one h1
        refine ⟨r, σ9, h3, ?_⟩
        unfold yG
        rw [hf]
        exact h2 _ _ h4
      · refine ⟨rv, σ', h1, ?_⟩
        unfold yG
        rw [hf]
        exact h2 _ _ ⟨rfl, rfl⟩
    · exact h.elim
/-- a contract: at depth d the method m answers r and leaves σ', of which P holds -/
def yC (d m : Nat) (as : List Value) (σ : zSt) (P : Option Value → zSt → Prop) : Prop := ∃ r σ', yE d m as σ r σ' ∧ P r σ'
theorem yC_of {d m : Nat} {as : List Value} {σ : zSt} {P : Option Value → zSt → Prop} (hm : m < 148) (hl : (lg_sl as).length ≤ mL m) (h : yX (yE d) ySn (ztl m) P 0 (lv_args 0 as) [] σ) : yC (d + 1) m as σ P := by
  obtain ⟨n, h⟩ := h
  obtain ⟨r, σ', h1, h2⟩ := yG_one h
  refine ⟨r, σ', ?_, h1⟩
  unfold yE
  rw [if_neg (by omega)]
  exact ⟨by omega, hl, n, h2⟩
theorem yC.mono {d m : Nat} {as : List Value} {σ : zSt} {P P' : Option Value → zSt → Prop} (h : yC d m as σ P) (k : ∀ r σ', P r σ' → P' r σ') : yC d m as σ P' := by
  obtain ⟨r, σ', h1, h2⟩ := h
  exact ⟨r, σ', h1, k r σ' h2⟩
/-- a run that may stop: the same rules -/
def yZ (E : zEr) (SC : zSc) (tb : List (Nat × zIn)) (X : zKc) (pc : Nat) (lv : zLv) (st : List Value) (σ : zSt) : Prop := ∃ n, yH E SC tb X n pc lv st σ
theorem yZ_stop {E : zEr} {SC : zSc} {tb : List (Nat × zIn)} {X : zKc} {pc : Nat} {lv : zLv} {st : List Value} {σ : zSt} (h : X pc lv st σ) : yZ E SC tb X pc lv st σ := ⟨0, h⟩
theorem yZ_at {E : zEr} {SC : zSc} {tb : List (Nat × zIn)} {X : zKc} {pc : Nat} {lv : zLv} {st : List Value} {σ : zSt} (w : zIn) (hf : zfind tb pc = some w) (h : zex E SC (fun _ _ => False) (yZ E SC tb X) w pc lv st σ) : yZ E SC tb X pc lv st σ := by
  rcases zex_one h with ⟨pc', lv', st', σ', ⟨n, h1⟩, h2⟩ | ⟨rv, σ', h1, h2⟩
  · refine ⟨n + 1, Or.inr ?_⟩
    rw [hf]
    exact h2 _ _ h1
  · exact h1.elim
