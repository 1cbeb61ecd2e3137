/-! ===== what my machine takes of String holds ===== -/
theorem Met_cons {l : Launch} {y : MethodName} {ws : List Cond} {rm : Room} {Pc Pc' : Array Value → State → Prop} {Qc Qc' : Array Value → State → Outcome → State → Prop} {mc ms : Nat} {free : Addr → Prop} (h : Met l y ws rm Pc Qc mc ms free) (hp : ∀ a s, Pc' a s → Pc a s) (hq : ∀ a s o t, Pc' a s → Qc a s o t → Qc' a s o t) : Met l y ws rm Pc' Qc' mc ms free := by
  intro p e ha hc hk s m args below hf happ hP hK
  obtain ⟨k, o, h1, h2, h3, hQ⟩ := h p e ha hc hk s m args below hf happ (hp _ _ hP) hK
  exact ⟨k, o, h1, h2, h3, hq _ _ _ _ hP hQ.1, hQ.2⟩
set_option maxRecDepth 20000 in
theorem yStr_ok (l : Launch) : yStr l := by
  intro m as r d ad cy D sz σ hm hd hp
  obtain ⟨d, rfl⟩ : ∃ d', d = d' + 4 := ⟨d - 4, by omega⟩
  rcases hm with rfl | rfl
  · unfold yprim at hp
    rw [if_pos rfl] at hp
    obtain ⟨k, hk, rfl, rfl⟩ := hp
    refine Met_cons (s_len l d ad (zA ad sz) k hk) ?_ ?_
    · rintro a s ⟨h1, h2, h3, h4, h5, h6⟩
      exact ⟨h1, h6⟩
    · rintro a s o t ⟨h1, h2, h3, h4, h5, h6⟩ hq
      exact zPost_of rfl h3 hq
  · unfold yprim at hp
    rw [if_neg (by decide)] at hp
    obtain ⟨k, j, hk, rfl, hj, rfl⟩ := hp
    refine Met_cons (s_cha l d ad (zA ad sz) k hk j hj) ?_ ?_
    · rintro a s ⟨h1, h2, h3, h4, h5, h6⟩
      exact ⟨h1, h6⟩
    · rintro a s o t ⟨h1, h2, h3, h4, h5, h6⟩ hq
      exact zPost_of rfl h3 hq
