set_option maxHeartbeats 8000000 in
set_option maxRecDepth 100000 in
theorem cL_parentOf_b1 (l : Launch) (D : va_G) (ct : Nat → ClassId) (b o : Nat) (ov : Int64) (x1 : Int32) (wc : va_W) (fs : List Value) (hwb : wc[0]? = some (b, .inr (3, fs))) (hM : vx_Met l yX3_parentOf wsX3_parentOf ({ frames := 7, cells := 1, slots := 6, locals := 120 } : Room) (bdPc D ct [.ref b, .int x1] wc) bdQ (bdX eO) 1 6 (fun _ => False)) (sz : Nat) : Met l yL_parentOf wsL_parentOf ({ frames := 9, cells := 1, slots := 6, locals := 300 } : Room) (wrPcT D ct [.ref b, .int x1, .ref o] (wO ct o ov ++ wc) sz) (wqI D (nI 1) (wO ct o ov ++ wc) (va_A (wO ct o ov ++ wc) sz)) 1 6 (va_A (wO ct o ov ++ wc) sz) := by
  refine met_ofWH (cc := cL_parentOf) (maxL := 4) (ret := (some .int)) (hh := [(0, 9, 12, 13)]) (by decide) rfl ?_
  intro p e s m args below meth c s₁ B hml hv
  obtain ⟨rfl, hsz, hP, hK, hD0, hT⟩ := hv
  have hx := B.exec
  have hb := B.bytes
  have hr := B.returns
  have hts := atoms_spec (ws := wsL_parentOf) B.pre
  have hown : s.vm.findClass RL = some m.cls := findClass_of_methodNamed B.named
  have hlocks := B.notSynchronized
  subst hsz
  have hD := hD0.self (sz := s.heap.size)
  generalize hAe : va_A (wO ct o ov ++ wc) s.heap.size = A at hD ⊢
  have hA : ∀ q : Nat, s.heap.size ≤ q → A q := fun q h => by rw [← hAe]; exact Or.inr h
  have hS : va_S A s.heap s.heap [] := va_S.rf
  have hP : va_P D vwCl (wO ct o ov ++ wc) s.heap := hP
  clear hAe hD0
  have hl := lv_entry ([.ref b, .int x1, .ref o]) (n := 4) (Nat.le_of_ble_eq_true rfl)
  rw [lg_entry_eq]
  generalize (lg_sl ([.ref b, .int x1, .ref o]) ++ List.replicate (4 - (lg_sl ([.ref b, .int x1, .ref o])).length) Slot.unset).toArray = ls at hl ⊢
  have hl : lv_has ls 4 [(0, .ref b), (1, .int x1), (2, .ref o)] := hl
  refine lv_aload_n hx hb dL_parentOf_0 rfl (lv_at hl 2 rfl) ?_
  refine lv_iconst (v := nI 0) hx hb dL_parentOf_1 (by decide) ?_
  refine lv_aload_n hx hb dL_parentOf_2 rfl (lv_at hl 0 rfl) ?_
  refine lv_iload_n hx hb dL_parentOf_3 rfl (lv_at hl 1 rfl) ?_
  refine r_xC (As := [.int x1]) (rest := [.int (nI 0), .ref o]) ⟨hx, hb, hml, hown, hts⟩ hM (cwV 1 hts gL_parentOf_X3_parentOf rfl rfl rfl (by decide +kernel) ⟨Nat.le_of_ble_eq_true rfl, Nat.le_of_ble_eq_true rfl⟩) hK (fun k9 q9 h9 => hP (k9 + 1) q9 h9) hT hS 0 3 hwb rfl rfl hl.1 rfl (Nat.le_of_ble_eq_true rfl) dL_parentOf_4 ⟨Nat.le_of_ble_eq_true rfl, Nat.le_of_ble_eq_true rfl⟩ hown [] (⟨0, 9, 12, 13⟩ : ExceptionTableEntry) [] ((vx_table (x := yL_parentOf) B (hts _ List.mem_cons_self)).trans rfl) (fun _ h9 => by cases h9) (by decide) (by decide) (hts (.classLink RL 13 "java/lang/IndexOutOfBoundsException") (List.mem_of_getElem? (i := 1) rfl)) hT.2.1.1.1 (fun H locs q9 hz hk hS => ?_)
  have hP : va_P D vwCl (wO ct o ov ++ wc) H := hP.kept (fun k9 x9 h9 => hk x9.1 ((hP k9 x9 h9).lt))
  refine lv_astore_n (lv' := [(3, .ref q9), (0, .ref b), (1, .int x1), (2, .ref o)]) hx hb dL_parentOf_12 rfl hl (by decide) rfl (fun ls hl => ?_)
  refine lv_iconst (v := nI 1) hx hb dL_parentOf_13 (by decide) ?_
  exact W.iret hx hb hr (fun t ht hW => ⟨⟨_, (), rfl, rfl, by show va_P D vwCl _ t.heap; rw [ht]; exact hP⟩, hS.F ht⟩) hS.2.2 dL_parentOf_14
set_option maxHeartbeats 8000000 in
set_option maxRecDepth 100000 in
theorem cL_generation_ok (l : Launch) (D : va_G) (ct : Nat → ClassId) (b o : Nat) (ov : Int64) (x1 : Int32) (v : Int32) (wc : va_W) (fs : List Value) (hwb : wc[0]? = some (b, .inr (3, fs))) (rf rl : Nat) (hrf : rf ≤ 8) (hrl : rl ≤ 250) (hM : Met l yX3_generation wsX3_generation ({ frames := rf, cells := 0, slots := 0, locals := rl } : Room) (roPc D ct [.ref b, .int x1] wc) (rqI v) 0 0 (fun _ => False)) (sz : Nat) : Met l yL_generation wsL_generation ({ frames := 9, cells := 0, slots := 0, locals := 300 } : Room) (wrPcT D ct [.ref b, .int x1, .ref o] (wO ct o ov ++ wc) sz) (wqI D (nI 0) (wO ct o v.toInt64 ++ wc) (va_A (wO ct o ov ++ wc) sz)) 0 0 (va_A (wO ct o ov ++ wc) sz) := by
  refine met_ofWH (cc := cL_generation) (maxL := 4) (ret := (some .int)) (hh := [(0, 9, 12, 13)]) (by decide) rfl ?_
  intro p e s m args below meth c s₁ B hml hv
  obtain ⟨rfl, hsz, hP, hK, hD0, hT⟩ := hv
  have hx := B.exec
  have hb := B.bytes
  have hr := B.returns
  have hts := atoms_spec (ws := wsL_generation) B.pre
  have hown : s.vm.findClass RL = some m.cls := findClass_of_methodNamed B.named
  have hlocks := B.notSynchronized
  subst hsz
  have hD := hD0.self (sz := s.heap.size)
  generalize hAe : va_A (wO ct o ov ++ wc) s.heap.size = A at hD ⊢
  have hA : ∀ q : Nat, s.heap.size ≤ q → A q := fun q h => by rw [← hAe]; exact Or.inr h
  have hS : va_S A s.heap s.heap [] := va_S.rf
  have hP : va_P D vwCl (wO ct o ov ++ wc) s.heap := hP
  clear hAe hD0
  have hl := lv_entry ([.ref b, .int x1, .ref o]) (n := 4) (Nat.le_of_ble_eq_true rfl)
  rw [lg_entry_eq]
  generalize (lg_sl ([.ref b, .int x1, .ref o]) ++ List.replicate (4 - (lg_sl ([.ref b, .int x1, .ref o])).length) Slot.unset).toArray = ls at hl ⊢
  have hl : lv_has ls 4 [(0, .ref b), (1, .int x1), (2, .ref o)] := hl
  refine lv_aload_n hx hb dL_generation_0 rfl (lv_at hl 2 rfl) ?_
  refine lv_iconst (v := nI 0) hx hb dL_generation_1 (by decide) ?_
  refine lv_aload_n hx hb dL_generation_2 rfl (lv_at hl 0 rfl) ?_
  refine lv_iload_n hx hb dL_generation_3 rfl (lv_at hl 1 rfl) ?_
  refine r_wB (As := [.int x1]) (rest := [.int (nI 0), .ref o]) ⟨hx, hb, hml, hown, hts⟩ hM (cwV 1 hts gL_generation_X3_generation rfl rfl rfl (by decide +kernel) ⟨by show rf + 1 ≤ 9; omega, by show 8 + (2 + 11) + rl ≤ 300; omega⟩) hK hP 0 3 hwb rfl rfl hl.1 rfl (Nat.le_of_ble_eq_true rfl) dL_generation_4 ⟨Nat.le_of_ble_eq_true rfl, Nat.le_of_ble_eq_true rfl⟩ ?_
  refine lv_i2l (v := v.toInt64) hx hb dL_generation_7 rfl ?_
  refine r_last0 hx hb hK hP hD hS dL_generation_8 (fun H locs hP hD hS => ?_)
  refine lv_goto (tgt := 15) hx hb dL_generation_9 (by decide) ?_
  refine lv_iconst (v := nI 0) hx hb dL_generation_15 (by decide) ?_
  exact W.iret hx hb hr (fun t ht hW => ⟨⟨_, (), rfl, rfl, by show va_P D vwCl _ t.heap; rw [ht]; exact hP⟩, hS.F ht⟩) hS.2.2 dL_generation_16
set_option maxHeartbeats 8000000 in
set_option maxRecDepth 100000 in
theorem cL_generation_b1 (l : Launch) (D : va_G) (ct : Nat → ClassId) (b o : Nat) (ov : Int64) (x1 : Int32) (wc : va_W) (fs : List Value) (hwb : wc[0]? = some (b, .inr (3, fs))) (hM : vx_Met l yX3_generation wsX3_generation ({ frames := 7, cells := 1, slots := 6, locals := 120 } : Room) (bdPc D ct [.ref b, .int x1] wc) bdQ (bdX eO) 1 6 (fun _ => False)) (sz : Nat) : Met l yL_generation wsL_generation ({ frames := 9, cells := 1, slots := 6, locals := 300 } : Room) (wrPcT D ct [.ref b, .int x1, .ref o] (wO ct o ov ++ wc) sz) (wqI D (nI 1) (wO ct o ov ++ wc) (va_A (wO ct o ov ++ wc) sz)) 1 6 (va_A (wO ct o ov ++ wc) sz) := by
  refine met_ofWH (cc := cL_generation) (maxL := 4) (ret := (some .int)) (hh := [(0, 9, 12, 13)]) (by decide) rfl ?_
  intro p e s m args below meth c s₁ B hml hv
  obtain ⟨rfl, hsz, hP, hK, hD0, hT⟩ := hv
  have hx := B.exec
  have hb := B.bytes
  have hr := B.returns
  have hts := atoms_spec (ws := wsL_generation) B.pre
  have hown : s.vm.findClass RL = some m.cls := findClass_of_methodNamed B.named
  have hlocks := B.notSynchronized
  subst hsz
  have hD := hD0.self (sz := s.heap.size)
  generalize hAe : va_A (wO ct o ov ++ wc) s.heap.size = A at hD ⊢
  have hA : ∀ q : Nat, s.heap.size ≤ q → A q := fun q h => by rw [← hAe]; exact Or.inr h
  have hS : va_S A s.heap s.heap [] := va_S.rf
  have hP : va_P D vwCl (wO ct o ov ++ wc) s.heap := hP
  clear hAe hD0
  have hl := lv_entry ([.ref b, .int x1, .ref o]) (n := 4) (Nat.le_of_ble_eq_true rfl)
  rw [lg_entry_eq]
  generalize (lg_sl ([.ref b, .int x1, .ref o]) ++ List.replicate (4 - (lg_sl ([.ref b, .int x1, .ref o])).length) Slot.unset).toArray = ls at hl ⊢
  have hl : lv_has ls 4 [(0, .ref b), (1, .int x1), (2, .ref o)] := hl
  refine lv_aload_n hx hb dL_generation_0 rfl (lv_at hl 2 rfl) ?_
  refine lv_iconst (v := nI 0) hx hb dL_generation_1 (by decide) ?_
  refine lv_aload_n hx hb dL_generation_2 rfl (lv_at hl 0 rfl) ?_
  refine lv_iload_n hx hb dL_generation_3 rfl (lv_at hl 1 rfl) ?_
  refine r_xC (As := [.int x1]) (rest := [.int (nI 0), .ref o]) ⟨hx, hb, hml, hown, hts⟩ hM (cwV 1 hts gL_generation_X3_generation rfl rfl rfl (by decide +kernel) ⟨Nat.le_of_ble_eq_true rfl, Nat.le_of_ble_eq_true rfl⟩) hK (fun k9 q9 h9 => hP (k9 + 1) q9 h9) hT hS 0 3 hwb rfl rfl hl.1 rfl (Nat.le_of_ble_eq_true rfl) dL_generation_4 ⟨Nat.le_of_ble_eq_true rfl, Nat.le_of_ble_eq_true rfl⟩ hown [] (⟨0, 9, 12, 13⟩ : ExceptionTableEntry) [] ((vx_table (x := yL_generation) B (hts _ List.mem_cons_self)).trans rfl) (fun _ h9 => by cases h9) (by decide) (by decide) (hts (.classLink RL 13 "java/lang/IndexOutOfBoundsException") (List.mem_of_getElem? (i := 1) rfl)) hT.2.1.1.1 (fun H locs q9 hz hk hS => ?_)
  have hP : va_P D vwCl (wO ct o ov ++ wc) H := hP.kept (fun k9 x9 h9 => hk x9.1 ((hP k9 x9 h9).lt))
  refine lv_astore_n (lv' := [(3, .ref q9), (0, .ref b), (1, .int x1), (2, .ref o)]) hx hb dL_generation_12 rfl hl (by decide) rfl (fun ls hl => ?_)
  refine lv_iconst (v := nI 1) hx hb dL_generation_13 (by decide) ?_
  exact W.iret hx hb hr (fun t ht hW => ⟨⟨_, (), rfl, rfl, by show va_P D vwCl _ t.heap; rw [ht]; exact hP⟩, hS.F ht⟩) hS.2.2 dL_generation_14
set_option maxHeartbeats 8000000 in
set_option maxRecDepth 100000 in
theorem cL_sum_ok (l : Launch) (D : va_G) (ct : Nat → ClassId) (b o : Nat) (ov : Int64) (x1 : Int32) (v : Int32) (wc : va_W) (fs : List Value) (hwb : wc[0]? = some (b, .inr (3, fs))) (rf rl : Nat) (hrf : rf ≤ 8) (hrl : rl ≤ 250) (hM : Met l yX3_sum wsX3_sum ({ frames := rf, cells := 0, slots := 0, locals := rl } : Room) (roPc D ct [.ref b, .int x1] wc) (rqI v) 0 0 (fun _ => False)) (sz : Nat) : Met l yL_sum wsL_sum ({ frames := 9, cells := 0, slots := 0, locals := 300 } : Room) (wrPcT D ct [.ref b, .int x1, .ref o] (wO ct o ov ++ wc) sz) (wqI D (nI 0) (wO ct o v.toInt64 ++ wc) (va_A (wO ct o ov ++ wc) sz)) 0 0 (va_A (wO ct o ov ++ wc) sz) := by
  refine met_ofWH (cc := cL_sum) (maxL := 4) (ret := (some .int)) (hh := [(0, 9, 12, 13)]) (by decide) rfl ?_
  intro p e s m args below meth c s₁ B hml hv
  obtain ⟨rfl, hsz, hP, hK, hD0, hT⟩ := hv
  have hx := B.exec
  have hb := B.bytes
  have hr := B.returns
  have hts := atoms_spec (ws := wsL_sum) B.pre
  have hown : s.vm.findClass RL = some m.cls := findClass_of_methodNamed B.named
  have hlocks := B.notSynchronized
  subst hsz
  have hD := hD0.self (sz := s.heap.size)
  generalize hAe : va_A (wO ct o ov ++ wc) s.heap.size = A at hD ⊢
  have hA : ∀ q : Nat, s.heap.size ≤ q → A q := fun q h => by rw [← hAe]; exact Or.inr h
  have hS : va_S A s.heap s.heap [] := va_S.rf
  have hP : va_P D vwCl (wO ct o ov ++ wc) s.heap := hP
  clear hAe hD0
  have hl := lv_entry ([.ref b, .int x1, .ref o]) (n := 4) (Nat.le_of_ble_eq_true rfl)
  rw [lg_entry_eq]
  generalize (lg_sl ([.ref b, .int x1, .ref o]) ++ List.replicate (4 - (lg_sl ([.ref b, .int x1, .ref o])).length) Slot.unset).toArray = ls at hl ⊢
  have hl : lv_has ls 4 [(0, .ref b), (1, .int x1), (2, .ref o)] := hl
  refine lv_aload_n hx hb dL_sum_0 rfl (lv_at hl 2 rfl) ?_
  refine lv_iconst (v := nI 0) hx hb dL_sum_1 (by decide) ?_
  refine lv_aload_n hx hb dL_sum_2 rfl (lv_at hl 0 rfl) ?_
  refine lv_iload_n hx hb dL_sum_3 rfl (lv_at hl 1 rfl) ?_
  refine r_wB (As := [.int x1]) (rest := [.int (nI 0), .ref o]) ⟨hx, hb, hml, hown, hts⟩ hM (cwV 1 hts gL_sum_X3_sum rfl rfl rfl (by decide +kernel) ⟨by show rf + 1 ≤ 9; omega, by show 8 + (2 + 11) + rl ≤ 300; omega⟩) hK hP 0 3 hwb rfl rfl hl.1 rfl (Nat.le_of_ble_eq_true rfl) dL_sum_4 ⟨Nat.le_of_ble_eq_true rfl, Nat.le_of_ble_eq_true rfl⟩ ?_
  refine lv_i2l (v := v.toInt64) hx hb dL_sum_7 rfl ?_
  refine r_last0 hx hb hK hP hD hS dL_sum_8 (fun H locs hP hD hS => ?_)
  refine lv_goto (tgt := 15) hx hb dL_sum_9 (by decide) ?_
  refine lv_iconst (v := nI 0) hx hb dL_sum_15 (by decide) ?_
  exact W.iret hx hb hr (fun t ht hW => ⟨⟨_, (), rfl, rfl, by show va_P D vwCl _ t.heap; rw [ht]; exact hP⟩, hS.F ht⟩) hS.2.2 dL_sum_16
set_option maxHeartbeats 8000000 in
set_option maxRecDepth 100000 in
theorem cL_sum_b1 (l : Launch) (D : va_G) (ct : Nat → ClassId) (b o : Nat) (ov : Int64) (x1 : Int32) (wc : va_W) (fs : List Value) (hwb : wc[0]? = some (b, .inr (3, fs))) (hM : vx_Met l yX3_sum wsX3_sum ({ frames := 7, cells := 1, slots := 6, locals := 120 } : Room) (bdPc D ct [.ref b, .int x1] wc) bdQ (bdX eO) 1 6 (fun _ => False)) (sz : Nat) : Met l yL_sum wsL_sum ({ frames := 9, cells := 1, slots := 6, locals := 300 } : Room) (wrPcT D ct [.ref b, .int x1, .ref o] (wO ct o ov ++ wc) sz) (wqI D (nI 1) (wO ct o ov ++ wc) (va_A (wO ct o ov ++ wc) sz)) 1 6 (va_A (wO ct o ov ++ wc) sz) := by
  refine met_ofWH (cc := cL_sum) (maxL := 4) (ret := (some .int)) (hh := [(0, 9, 12, 13)]) (by decide) rfl ?_
  intro p e s m args below meth c s₁ B hml hv
  obtain ⟨rfl, hsz, hP, hK, hD0, hT⟩ := hv
  have hx := B.exec
  have hb := B.bytes
  have hr := B.returns
  have hts := atoms_spec (ws := wsL_sum) B.pre
  have hown : s.vm.findClass RL = some m.cls := findClass_of_methodNamed B.named
  have hlocks := B.notSynchronized
  subst hsz
  have hD := hD0.self (sz := s.heap.size)
  generalize hAe : va_A (wO ct o ov ++ wc) s.heap.size = A at hD ⊢
  have hA : ∀ q : Nat, s.heap.size ≤ q → A q := fun q h => by rw [← hAe]; exact Or.inr h
  have hS : va_S A s.heap s.heap [] := va_S.rf
  have hP : va_P D vwCl (wO ct o ov ++ wc) s.heap := hP
  clear hAe hD0
  have hl := lv_entry ([.ref b, .int x1, .ref o]) (n := 4) (Nat.le_of_ble_eq_true rfl)
  rw [lg_entry_eq]
  generalize (lg_sl ([.ref b, .int x1, .ref o]) ++ List.replicate (4 - (lg_sl ([.ref b, .int x1, .ref o])).length) Slot.unset).toArray = ls at hl ⊢
  have hl : lv_has ls 4 [(0, .ref b), (1, .int x1), (2, .ref o)] := hl
  refine lv_aload_n hx hb dL_sum_0 rfl (lv_at hl 2 rfl) ?_
  refine lv_iconst (v := nI 0) hx hb dL_sum_1 (by decide) ?_
  refine lv_aload_n hx hb dL_sum_2 rfl (lv_at hl 0 rfl) ?_
  refine lv_iload_n hx hb dL_sum_3 rfl (lv_at hl 1 rfl) ?_
  refine r_xC (As := [.int x1]) (rest := [.int (nI 0), .ref o]) ⟨hx, hb, hml, hown, hts⟩ hM (cwV 1 hts gL_sum_X3_sum rfl rfl rfl (by decide +kernel) ⟨Nat.le_of_ble_eq_true rfl, Nat.le_of_ble_eq_true rfl⟩) hK (fun k9 q9 h9 => hP (k9 + 1) q9 h9) hT hS 0 3 hwb rfl rfl hl.1 rfl (Nat.le_of_ble_eq_true rfl) dL_sum_4 ⟨Nat.le_of_ble_eq_true rfl, Nat.le_of_ble_eq_true rfl⟩ hown [] (⟨0, 9, 12, 13⟩ : ExceptionTableEntry) [] ((vx_table (x := yL_sum) B (hts _ List.mem_cons_self)).trans rfl) (fun _ h9 => by cases h9) (by decide) (by decide) (hts (.classLink RL 13 "java/lang/IndexOutOfBoundsException") (List.mem_of_getElem? (i := 1) rfl)) hT.2.1.1.1 (fun H locs q9 hz hk hS => ?_)
  have hP : va_P D vwCl (wO ct o ov ++ wc) H := hP.kept (fun k9 x9 h9 => hk x9.1 ((hP k9 x9 h9).lt))
  refine lv_astore_n (lv' := [(3, .ref q9), (0, .ref b), (1, .int x1), (2, .ref o)]) hx hb dL_sum_12 rfl hl (by decide) rfl (fun ls hl => ?_)
  refine lv_iconst (v := nI 1) hx hb dL_sum_13 (by decide) ?_
  exact W.iret hx hb hr (fun t ht hW => ⟨⟨_, (), rfl, rfl, by show va_P D vwCl _ t.heap; rw [ht]; exact hP⟩, hS.F ht⟩) hS.2.2 dL_sum_14
set_option maxHeartbeats 8000000 in
set_option maxRecDepth 100000 in
theorem cL_valueOf_ok (l : Launch) (D : va_G) (ct : Nat → ClassId) (b o : Nat) (ov : Int64) (x1 : Int32) (v : Int32) (wc : va_W) (fs : List Value) (hwb : wc[0]? = some (b, .inr (3, fs))) (rf rl : Nat) (hrf : rf ≤ 8) (hrl : rl ≤ 250) (hM : Met l yX3_valueOf wsX3_valueOf ({ frames := rf, cells := 0, slots := 0, locals := rl } : Room) (roPc D ct [.ref b, .int x1] wc) (rqI v) 0 0 (fun _ => False)) (sz : Nat) : Met l yL_valueOf wsL_valueOf ({ frames := 9, cells := 0, slots := 0, locals := 300 } : Room) (wrPcT D ct [.ref b, .int x1, .ref o] (wO ct o ov ++ wc) sz) (wqI D (nI 0) (wO ct o v.toInt64 ++ wc) (va_A (wO ct o ov ++ wc) sz)) 0 0 (va_A (wO ct o ov ++ wc) sz) := by
  refine met_ofWH (cc := cL_valueOf) (maxL := 4) (ret := (some .int)) (hh := [(0, 9, 12, 13)]) (by decide) rfl ?_
  intro p e s m args below meth c s₁ B hml hv
  obtain ⟨rfl, hsz, hP, hK, hD0, hT⟩ := hv
  have hx := B.exec
  have hb := B.bytes
  have hr := B.returns
  have hts := atoms_spec (ws := wsL_valueOf) B.pre
  have hown : s.vm.findClass RL = some m.cls := findClass_of_methodNamed B.named
  have hlocks := B.notSynchronized
  subst hsz
  have hD := hD0.self (sz := s.heap.size)
  generalize hAe : va_A (wO ct o ov ++ wc) s.heap.size = A at hD ⊢
  have hA : ∀ q : Nat, s.heap.size ≤ q → A q := fun q h => by rw [← hAe]; exact Or.inr h
  have hS : va_S A s.heap s.heap [] := va_S.rf
  have hP : va_P D vwCl (wO ct o ov ++ wc) s.heap := hP
  clear hAe hD0
  have hl := lv_entry ([.ref b, .int x1, .ref o]) (n := 4) (Nat.le_of_ble_eq_true rfl)
  rw [lg_entry_eq]
  generalize (lg_sl ([.ref b, .int x1, .ref o]) ++ List.replicate (4 - (lg_sl ([.ref b, .int x1, .ref o])).length) Slot.unset).toArray = ls at hl ⊢
  have hl : lv_has ls 4 [(0, .ref b), (1, .int x1), (2, .ref o)] := hl
  refine lv_aload_n hx hb dL_valueOf_0 rfl (lv_at hl 2 rfl) ?_
  refine lv_iconst (v := nI 0) hx hb dL_valueOf_1 (by decide) ?_
  refine lv_aload_n hx hb dL_valueOf_2 rfl (lv_at hl 0 rfl) ?_
  refine lv_iload_n hx hb dL_valueOf_3 rfl (lv_at hl 1 rfl) ?_
  refine r_wB (As := [.int x1]) (rest := [.int (nI 0), .ref o]) ⟨hx, hb, hml, hown, hts⟩ hM (cwV 1 hts gL_valueOf_X3_valueOf rfl rfl rfl (by decide +kernel) ⟨by show rf + 1 ≤ 9; omega, by show 8 + (2 + 11) + rl ≤ 300; omega⟩) hK hP 0 3 hwb rfl rfl hl.1 rfl (Nat.le_of_ble_eq_true rfl) dL_valueOf_4 ⟨Nat.le_of_ble_eq_true rfl, Nat.le_of_ble_eq_true rfl⟩ ?_
  refine lv_i2l (v := v.toInt64) hx hb dL_valueOf_7 rfl ?_
  refine r_last0 hx hb hK hP hD hS dL_valueOf_8 (fun H locs hP hD hS => ?_)
  refine lv_goto (tgt := 15) hx hb dL_valueOf_9 (by decide) ?_
  refine lv_iconst (v := nI 0) hx hb dL_valueOf_15 (by decide) ?_
  exact W.iret hx hb hr (fun t ht hW => ⟨⟨_, (), rfl, rfl, by show va_P D vwCl _ t.heap; rw [ht]; exact hP⟩, hS.F ht⟩) hS.2.2 dL_valueOf_16
set_option maxHeartbeats 8000000 in
set_option maxRecDepth 100000 in
theorem cL_valueOf_b1 (l : Launch) (D : va_G) (ct : Nat → ClassId) (b o : Nat) (ov : Int64) (x1 : Int32) (wc : va_W) (fs : List Value) (hwb : wc[0]? = some (b, .inr (3, fs))) (hM : vx_Met l yX3_valueOf wsX3_valueOf ({ frames := 7, cells := 1, slots := 6, locals := 120 } : Room) (bdPc D ct [.ref b, .int x1] wc) bdQ (bdX eO) 1 6 (fun _ => False)) (sz : Nat) : Met l yL_valueOf wsL_valueOf ({ frames := 9, cells := 1, slots := 6, locals := 300 } : Room) (wrPcT D ct [.ref b, .int x1, .ref o] (wO ct o ov ++ wc) sz) (wqI D (nI 1) (wO ct o ov ++ wc) (va_A (wO ct o ov ++ wc) sz)) 1 6 (va_A (wO ct o ov ++ wc) sz) := by
  refine met_ofWH (cc := cL_valueOf) (maxL := 4) (ret := (some .int)) (hh := [(0, 9, 12, 13)]) (by decide) rfl ?_
  intro p e s m args below meth c s₁ B hml hv
  obtain ⟨rfl, hsz, hP, hK, hD0, hT⟩ := hv
  have hx := B.exec
  have hb := B.bytes
  have hr := B.returns
  have hts := atoms_spec (ws := wsL_valueOf) B.pre
  have hown : s.vm.findClass RL = some m.cls := findClass_of_methodNamed B.named
  have hlocks := B.notSynchronized
  subst hsz
  have hD := hD0.self (sz := s.heap.size)
  generalize hAe : va_A (wO ct o ov ++ wc) s.heap.size = A at hD ⊢
  have hA : ∀ q : Nat, s.heap.size ≤ q → A q := fun q h => by rw [← hAe]; exact Or.inr h
  have hS : va_S A s.heap s.heap [] := va_S.rf
  have hP : va_P D vwCl (wO ct o ov ++ wc) s.heap := hP
  clear hAe hD0
  have hl := lv_entry ([.ref b, .int x1, .ref o]) (n := 4) (Nat.le_of_ble_eq_true rfl)
  rw [lg_entry_eq]
  generalize (lg_sl ([.ref b, .int x1, .ref o]) ++ List.replicate (4 - (lg_sl ([.ref b, .int x1, .ref o])).length) Slot.unset).toArray = ls at hl ⊢
  have hl : lv_has ls 4 [(0, .ref b), (1, .int x1), (2, .ref o)] := hl
  refine lv_aload_n hx hb dL_valueOf_0 rfl (lv_at hl 2 rfl) ?_
  refine lv_iconst (v := nI 0) hx hb dL_valueOf_1 (by decide) ?_
  refine lv_aload_n hx hb dL_valueOf_2 rfl (lv_at hl 0 rfl) ?_
  refine lv_iload_n hx hb dL_valueOf_3 rfl (lv_at hl 1 rfl) ?_
  refine r_xC (As := [.int x1]) (rest := [.int (nI 0), .ref o]) ⟨hx, hb, hml, hown, hts⟩ hM (cwV 1 hts gL_valueOf_X3_valueOf rfl rfl rfl (by decide +kernel) ⟨Nat.le_of_ble_eq_true rfl, Nat.le_of_ble_eq_true rfl⟩) hK (fun k9 q9 h9 => hP (k9 + 1) q9 h9) hT hS 0 3 hwb rfl rfl hl.1 rfl (Nat.le_of_ble_eq_true rfl) dL_valueOf_4 ⟨Nat.le_of_ble_eq_true rfl, Nat.le_of_ble_eq_true rfl⟩ hown [] (⟨0, 9, 12, 13⟩ : ExceptionTableEntry) [] ((vx_table (x := yL_valueOf) B (hts _ List.mem_cons_self)).trans rfl) (fun _ h9 => by cases h9) (by decide) (by decide) (hts (.classLink RL 13 "java/lang/IndexOutOfBoundsException") (List.mem_of_getElem? (i := 1) rfl)) hT.2.1.1.1 (fun H locs q9 hz hk hS => ?_)
  have hP : va_P D vwCl (wO ct o ov ++ wc) H := hP.kept (fun k9 x9 h9 => hk x9.1 ((hP k9 x9 h9).lt))
  refine lv_astore_n (lv' := [(3, .ref q9), (0, .ref b), (1, .int x1), (2, .ref o)]) hx hb dL_valueOf_12 rfl hl (by decide) rfl (fun ls hl => ?_)
  refine lv_iconst (v := nI 1) hx hb dL_valueOf_13 (by decide) ?_
  exact W.iret hx hb hr (fun t ht hW => ⟨⟨_, (), rfl, rfl, by show va_P D vwCl _ t.heap; rw [ht]; exact hP⟩, hS.F ht⟩) hS.2.2 dL_valueOf_14
set_option maxHeartbeats 8000000 in
set_option maxRecDepth 100000 in
theorem cL_sequence_ok (l : Launch) (D : va_G) (ct : Nat → ClassId) (b o : Nat) (ov : Int64) (x1 : Int32) (v : Int32) (wc : va_W) (fs : List Value) (hwb : wc[0]? = some (b, .inr (3, fs))) (rf rl : Nat) (hrf : rf ≤ 8) (hrl : rl ≤ 250) (hM : Met l yX3_sequence wsX3_sequence ({ frames := rf, cells := 0, slots := 0, locals := rl } : Room) (roPc D ct [.ref b, .int x1] wc) (rqI v) 0 0 (fun _ => False)) (sz : Nat) : Met l yL_sequence wsL_sequence ({ frames := 9, cells := 0, slots := 0, locals := 300 } : Room) (wrPcT D ct [.ref b, .int x1, .ref o] (wO ct o ov ++ wc) sz) (wqI D (nI 0) (wO ct o v.toInt64 ++ wc) (va_A (wO ct o ov ++ wc) sz)) 0 0 (va_A (wO ct o ov ++ wc) sz) := by
  refine met_ofWH (cc := cL_sequence) (maxL := 4) (ret := (some .int)) (hh := [(0, 9, 12, 13)]) (by decide) rfl ?_
  intro p e s m args below meth c s₁ B hml hv
  obtain ⟨rfl, hsz, hP, hK, hD0, hT⟩ := hv
  have hx := B.exec
  have hb := B.bytes
  have hr := B.returns
  have hts := atoms_spec (ws := wsL_sequence) B.pre
  have hown : s.vm.findClass RL = some m.cls := findClass_of_methodNamed B.named
  have hlocks := B.notSynchronized
  subst hsz
  have hD := hD0.self (sz := s.heap.size)
  generalize hAe : va_A (wO ct o ov ++ wc) s.heap.size = A at hD ⊢
  have hA : ∀ q : Nat, s.heap.size ≤ q → A q := fun q h => by rw [← hAe]; exact Or.inr h
  have hS : va_S A s.heap s.heap [] := va_S.rf
  have hP : va_P D vwCl (wO ct o ov ++ wc) s.heap := hP
  clear hAe hD0
  have hl := lv_entry ([.ref b, .int x1, .ref o]) (n := 4) (Nat.le_of_ble_eq_true rfl)
  rw [lg_entry_eq]
  generalize (lg_sl ([.ref b, .int x1, .ref o]) ++ List.replicate (4 - (lg_sl ([.ref b, .int x1, .ref o])).length) Slot.unset).toArray = ls at hl ⊢
  have hl : lv_has ls 4 [(0, .ref b), (1, .int x1), (2, .ref o)] := hl
  refine lv_aload_n hx hb dL_sequence_0 rfl (lv_at hl 2 rfl) ?_
  refine lv_iconst (v := nI 0) hx hb dL_sequence_1 (by decide) ?_
  refine lv_aload_n hx hb dL_sequence_2 rfl (lv_at hl 0 rfl) ?_
  refine lv_iload_n hx hb dL_sequence_3 rfl (lv_at hl 1 rfl) ?_
  refine r_wB (As := [.int x1]) (rest := [.int (nI 0), .ref o]) ⟨hx, hb, hml, hown, hts⟩ hM (cwV 1 hts gL_sequence_X3_sequence rfl rfl rfl (by decide +kernel) ⟨by show rf + 1 ≤ 9; omega, by show 8 + (2 + 11) + rl ≤ 300; omega⟩) hK hP 0 3 hwb rfl rfl hl.1 rfl (Nat.le_of_ble_eq_true rfl) dL_sequence_4 ⟨Nat.le_of_ble_eq_true rfl, Nat.le_of_ble_eq_true rfl⟩ ?_
  refine lv_i2l (v := v.toInt64) hx hb dL_sequence_7 rfl ?_
  refine r_last0 hx hb hK hP hD hS dL_sequence_8 (fun H locs hP hD hS => ?_)
  refine lv_goto (tgt := 15) hx hb dL_sequence_9 (by decide) ?_
  refine lv_iconst (v := nI 0) hx hb dL_sequence_15 (by decide) ?_
  exact W.iret hx hb hr (fun t ht hW => ⟨⟨_, (), rfl, rfl, by show va_P D vwCl _ t.heap; rw [ht]; exact hP⟩, hS.F ht⟩) hS.2.2 dL_sequence_16
set_option maxHeartbeats 8000000 in
set_option maxRecDepth 100000 in
theorem cL_sequence_b1 (l : Launch) (D : va_G) (ct : Nat → ClassId) (b o : Nat) (ov : Int64) (x1 : Int32) (wc : va_W) (fs : List Value) (hwb : wc[0]? = some (b, .inr (3, fs))) (hM : vx_Met l yX3_sequence wsX3_sequence ({ frames := 7, cells := 1, slots := 6, locals := 120 } : Room) (bdPc D ct [.ref b, .int x1] wc) bdQ (bdX eO) 1 6 (fun _ => False)) (sz : Nat) : Met l yL_sequence wsL_sequence ({ frames := 9, cells := 1, slots := 6, locals := 300 } : Room) (wrPcT D ct [.ref b, .int x1, .ref o] (wO ct o ov ++ wc) sz) (wqI D (nI 1) (wO ct o ov ++ wc) (va_A (wO ct o ov ++ wc) sz)) 1 6 (va_A (wO ct o ov ++ wc) sz) := by
  refine met_ofWH (cc := cL_sequence) (maxL := 4) (ret := (some .int)) (hh := [(0, 9, 12, 13)]) (by decide) rfl ?_
  intro p e s m args below meth c s₁ B hml hv
  obtain ⟨rfl, hsz, hP, hK, hD0, hT⟩ := hv
  have hx := B.exec
  have hb := B.bytes
  have hr := B.returns
  have hts := atoms_spec (ws := wsL_sequence) B.pre
  have hown : s.vm.findClass RL = some m.cls := findClass_of_methodNamed B.named
  have hlocks := B.notSynchronized
  subst hsz
  have hD := hD0.self (sz := s.heap.size)
  generalize hAe : va_A (wO ct o ov ++ wc) s.heap.size = A at hD ⊢
  have hA : ∀ q : Nat, s.heap.size ≤ q → A q := fun q h => by rw [← hAe]; exact Or.inr h
  have hS : va_S A s.heap s.heap [] := va_S.rf
  have hP : va_P D vwCl (wO ct o ov ++ wc) s.heap := hP
  clear hAe hD0
  have hl := lv_entry ([.ref b, .int x1, .ref o]) (n := 4) (Nat.le_of_ble_eq_true rfl)
  rw [lg_entry_eq]
  generalize (lg_sl ([.ref b, .int x1, .ref o]) ++ List.replicate (4 - (lg_sl ([.ref b, .int x1, .ref o])).length) Slot.unset).toArray = ls at hl ⊢
  have hl : lv_has ls 4 [(0, .ref b), (1, .int x1), (2, .ref o)] := hl
  refine lv_aload_n hx hb dL_sequence_0 rfl (lv_at hl 2 rfl) ?_
  refine lv_iconst (v := nI 0) hx hb dL_sequence_1 (by decide) ?_
  refine lv_aload_n hx hb dL_sequence_2 rfl (lv_at hl 0 rfl) ?_
  refine lv_iload_n hx hb dL_sequence_3 rfl (lv_at hl 1 rfl) ?_
  refine r_xC (As := [.int x1]) (rest := [.int (nI 0), .ref o]) ⟨hx, hb, hml, hown, hts⟩ hM (cwV 1 hts gL_sequence_X3_sequence rfl rfl rfl (by decide +kernel) ⟨Nat.le_of_ble_eq_true rfl, Nat.le_of_ble_eq_true rfl⟩) hK (fun k9 q9 h9 => hP (k9 + 1) q9 h9) hT hS 0 3 hwb rfl rfl hl.1 rfl (Nat.le_of_ble_eq_true rfl) dL_sequence_4 ⟨Nat.le_of_ble_eq_true rfl, Nat.le_of_ble_eq_true rfl⟩ hown [] (⟨0, 9, 12, 13⟩ : ExceptionTableEntry) [] ((vx_table (x := yL_sequence) B (hts _ List.mem_cons_self)).trans rfl) (fun _ h9 => by cases h9) (by decide) (by decide) (hts (.classLink RL 13 "java/lang/IndexOutOfBoundsException") (List.mem_of_getElem? (i := 1) rfl)) hT.2.1.1.1 (fun H locs q9 hz hk hS => ?_)
  have hP : va_P D vwCl (wO ct o ov ++ wc) H := hP.kept (fun k9 x9 h9 => hk x9.1 ((hP k9 x9 h9).lt))
  refine lv_astore_n (lv' := [(3, .ref q9), (0, .ref b), (1, .int x1), (2, .ref o)]) hx hb dL_sequence_12 rfl hl (by decide) rfl (fun ls hl => ?_)
  refine lv_iconst (v := nI 1) hx hb dL_sequence_13 (by decide) ?_
  exact W.iret hx hb hr (fun t ht hW => ⟨⟨_, (), rfl, rfl, by show va_P D vwCl _ t.heap; rw [ht]; exact hP⟩, hS.F ht⟩) hS.2.2 dL_sequence_14
set_option maxHeartbeats 8000000 in
set_option maxRecDepth 100000 in
theorem cL_has_ok (l : Launch) (D : va_G) (ct : Nat → ClassId) (b o : Nat) (ov : Int64) (x1 x2 : Int32) (v : Bool) (wc : va_W) (fs : List Value) (hwb : wc[0]? = some (b, .inr (3, fs))) (rf rl : Nat) (hrf : rf ≤ 8) (hrl : rl ≤ 250) (hM : Met l yX3_has wsX3_has ({ frames := rf, cells := 0, slots := 0, locals := rl } : Room) (roPc D ct [.ref b, .int x1, .int x2] wc) (rqI (bI v)) 0 0 (fun _ => False)) (sz : Nat) : Met l yL_has wsL_has ({ frames := 9, cells := 0, slots := 0, locals := 300 } : Room) (wrPcT D ct [.ref b, .int x1, .int x2, .ref o] (wO ct o ov ++ wc) sz) (wqI D (nI 0) (wO ct o (if v = true then 1 else 0) ++ wc) (va_A (wO ct o ov ++ wc) sz)) 0 0 (va_A (wO ct o ov ++ wc) sz) := by
  refine met_ofWH (cc := cL_has) (maxL := 5) (ret := (some .int)) (hh := [(0, 17, 20, 13)]) (by decide) rfl ?_
  intro p e s m args below meth c s₁ B hml hv
  obtain ⟨rfl, hsz, hP, hK, hD0, hT⟩ := hv
  have hx := B.exec
  have hb := B.bytes
  have hr := B.returns
  have hts := atoms_spec (ws := wsL_has) B.pre
  have hown : s.vm.findClass RL = some m.cls := findClass_of_methodNamed B.named
  have hlocks := B.notSynchronized
  subst hsz
  have hD := hD0.self (sz := s.heap.size)
  generalize hAe : va_A (wO ct o ov ++ wc) s.heap.size = A at hD ⊢
  have hA : ∀ q : Nat, s.heap.size ≤ q → A q := fun q h => by rw [← hAe]; exact Or.inr h
  have hS : va_S A s.heap s.heap [] := va_S.rf
  have hP : va_P D vwCl (wO ct o ov ++ wc) s.heap := hP
  clear hAe hD0
  have hl := lv_entry ([.ref b, .int x1, .int x2, .ref o]) (n := 5) (Nat.le_of_ble_eq_true rfl)
  rw [lg_entry_eq]
  generalize (lg_sl ([.ref b, .int x1, .int x2, .ref o]) ++ List.replicate (5 - (lg_sl ([.ref b, .int x1, .int x2, .ref o])).length) Slot.unset).toArray = ls at hl ⊢
  have hl : lv_has ls 5 [(0, .ref b), (1, .int x1), (2, .int x2), (3, .ref o)] := hl
  refine lv_aload_n hx hb dL_has_0 rfl (lv_at hl 3 rfl) ?_
  refine lv_iconst (v := nI 0) hx hb dL_has_1 (by decide) ?_
  refine lv_aload_n hx hb dL_has_2 rfl (lv_at hl 0 rfl) ?_
  refine lv_iload_n hx hb dL_has_3 rfl (lv_at hl 1 rfl) ?_
  refine lv_iload_n hx hb dL_has_4 rfl (lv_at hl 2 rfl) ?_
  refine r_wB (As := [.int x1, .int x2]) (rest := [.int (nI 0), .ref o]) ⟨hx, hb, hml, hown, hts⟩ hM (cwV 2 hts gL_has_X3_has rfl rfl rfl (by decide +kernel) ⟨by show rf + 1 ≤ 9; omega, by show 8 + (4 + 11) + rl ≤ 300; omega⟩) hK hP 0 3 hwb rfl rfl hl.1 rfl (Nat.le_of_ble_eq_true rfl) dL_has_5 ⟨Nat.le_of_ble_eq_true rfl, Nat.le_of_ble_eq_true rfl⟩ ?_
  refine r_if_eqB (x := v) (tgt := 15) hx hb dL_has_8 (by decide) (fun c9 => ?_) (fun c9 => ?_)
  · subst c9
    refine lv_lconst (v := 0) hx hb dL_has_15 (by decide) ?_
    refine r_last0 hx hb hK hP hD hS dL_has_16 (fun H locs hP hD hS => ?_)
    refine lv_goto (tgt := 24) hx hb dL_has_17 (by decide) ?_
    refine lv_iconst (v := nI 0) hx hb dL_has_24 (by decide) ?_
    exact W.iret hx hb hr (fun t ht hW => ⟨⟨_, (), rfl, rfl, by show va_P D vwCl _ t.heap; rw [ht]; exact hP⟩, hS.F ht⟩) hS.2.2 dL_has_25
  · subst c9
    refine lv_lconst (v := 1) hx hb dL_has_11 (by decide) ?_
    refine lv_goto (tgt := 16) hx hb dL_has_12 (by decide) ?_
    refine r_last0 hx hb hK hP hD hS dL_has_16 (fun H locs hP hD hS => ?_)
    refine lv_goto (tgt := 24) hx hb dL_has_17 (by decide) ?_
    refine lv_iconst (v := nI 0) hx hb dL_has_24 (by decide) ?_
    exact W.iret hx hb hr (fun t ht hW => ⟨⟨_, (), rfl, rfl, by show va_P D vwCl _ t.heap; rw [ht]; exact hP⟩, hS.F ht⟩) hS.2.2 dL_has_25
set_option maxHeartbeats 8000000 in
set_option maxRecDepth 100000 in
theorem cL_has_b1 (l : Launch) (D : va_G) (ct : Nat → ClassId) (b o : Nat) (ov : Int64) (x1 x2 : Int32) (wc : va_W) (fs : List Value) (hwb : wc[0]? = some (b, .inr (3, fs))) (hM : vx_Met l yX3_has wsX3_has ({ frames := 7, cells := 1, slots := 6, locals := 120 } : Room) (bdPc D ct [.ref b, .int x1, .int x2] wc) bdQ (bdX eO) 1 6 (fun _ => False)) (sz : Nat) : Met l yL_has wsL_has ({ frames := 9, cells := 1, slots := 6, locals := 300 } : Room) (wrPcT D ct [.ref b, .int x1, .int x2, .ref o] (wO ct o ov ++ wc) sz) (wqI D (nI 1) (wO ct o ov ++ wc) (va_A (wO ct o ov ++ wc) sz)) 1 6 (va_A (wO ct o ov ++ wc) sz) := by
  refine met_ofWH (cc := cL_has) (maxL := 5) (ret := (some .int)) (hh := [(0, 17, 20, 13)]) (by decide) rfl ?_
  intro p e s m args below meth c s₁ B hml hv
  obtain ⟨rfl, hsz, hP, hK, hD0, hT⟩ := hv
  have hx := B.exec
  have hb := B.bytes
  have hr := B.returns
  have hts := atoms_spec (ws := wsL_has) B.pre
  have hown : s.vm.findClass RL = some m.cls := findClass_of_methodNamed B.named
  have hlocks := B.notSynchronized
  subst hsz
  have hD := hD0.self (sz := s.heap.size)
  generalize hAe : va_A (wO ct o ov ++ wc) s.heap.size = A at hD ⊢
  have hA : ∀ q : Nat, s.heap.size ≤ q → A q := fun q h => by rw [← hAe]; exact Or.inr h
  have hS : va_S A s.heap s.heap [] := va_S.rf
  have hP : va_P D vwCl (wO ct o ov ++ wc) s.heap := hP
  clear hAe hD0
  have hl := lv_entry ([.ref b, .int x1, .int x2, .ref o]) (n := 5) (Nat.le_of_ble_eq_true rfl)
  rw [lg_entry_eq]
  generalize (lg_sl ([.ref b, .int x1, .int x2, .ref o]) ++ List.replicate (5 - (lg_sl ([.ref b, .int x1, .int x2, .ref o])).length) Slot.unset).toArray = ls at hl ⊢
  have hl : lv_has ls 5 [(0, .ref b), (1, .int x1), (2, .int x2), (3, .ref o)] := hl
  refine lv_aload_n hx hb dL_has_0 rfl (lv_at hl 3 rfl) ?_
  refine lv_iconst (v := nI 0) hx hb dL_has_1 (by decide) ?_
  refine lv_aload_n hx hb dL_has_2 rfl (lv_at hl 0 rfl) ?_
  refine lv_iload_n hx hb dL_has_3 rfl (lv_at hl 1 rfl) ?_
  refine lv_iload_n hx hb dL_has_4 rfl (lv_at hl 2 rfl) ?_
  refine r_xC (As := [.int x1, .int x2]) (rest := [.int (nI 0), .ref o]) ⟨hx, hb, hml, hown, hts⟩ hM (cwV 2 hts gL_has_X3_has rfl rfl rfl (by decide +kernel) ⟨Nat.le_of_ble_eq_true rfl, Nat.le_of_ble_eq_true rfl⟩) hK (fun k9 q9 h9 => hP (k9 + 1) q9 h9) hT hS 0 3 hwb rfl rfl hl.1 rfl (Nat.le_of_ble_eq_true rfl) dL_has_5 ⟨Nat.le_of_ble_eq_true rfl, Nat.le_of_ble_eq_true rfl⟩ hown [] (⟨0, 17, 20, 13⟩ : ExceptionTableEntry) [] ((vx_table (x := yL_has) B (hts _ List.mem_cons_self)).trans rfl) (fun _ h9 => by cases h9) (by decide) (by decide) (hts (.classLink RL 13 "java/lang/IndexOutOfBoundsException") (List.mem_of_getElem? (i := 1) rfl)) hT.2.1.1.1 (fun H locs q9 hz hk hS => ?_)
  have hP : va_P D vwCl (wO ct o ov ++ wc) H := hP.kept (fun k9 x9 h9 => hk x9.1 ((hP k9 x9 h9).lt))
  refine lv_astore (lv' := [(4, .ref q9), (0, .ref b), (1, .int x1), (2, .int x2), (3, .ref o)]) hx hb dL_has_20 hl (by decide) rfl (fun ls hl => ?_)
  refine lv_iconst (v := nI 1) hx hb dL_has_22 (by decide) ?_
  exact W.iret hx hb hr (fun t ht hW => ⟨⟨_, (), rfl, rfl, by show va_P D vwCl _ t.heap; rw [ht]; exact hP⟩, hS.F ht⟩) hS.2.2 dL_has_23
set_option maxHeartbeats 8000000 in
set_option maxRecDepth 100000 in
theorem cL_isLeaf_ok (l : Launch) (D : va_G) (ct : Nat → ClassId) (b o : Nat) (ov : Int64) (x1 x2 : Int32) (v : Bool) (wc : va_W) (fs : List Value) (hwb : wc[0]? = some (b, .inr (3, fs))) (rf rl : Nat) (hrf : rf ≤ 8) (hrl : rl ≤ 250) (hM : Met l yX3_isLeaf wsX3_isLeaf ({ frames := rf, cells := 0, slots := 0, locals := rl } : Room) (roPc D ct [.ref b, .int x1, .int x2] wc) (rqI (bI v)) 0 0 (fun _ => False)) (sz : Nat) : Met l yL_isLeaf wsL_isLeaf ({ frames := 9, cells := 0, slots := 0, locals := 300 } : Room) (wrPcT D ct [.ref b, .int x1, .int x2, .ref o] (wO ct o ov ++ wc) sz) (wqI D (nI 0) (wO ct o (if v = true then 1 else 0) ++ wc) (va_A (wO ct o ov ++ wc) sz)) 0 0 (va_A (wO ct o ov ++ wc) sz) := by
  refine met_ofWH (cc := cL_isLeaf) (maxL := 5) (ret := (some .int)) (hh := [(0, 17, 20, 13)]) (by decide) rfl ?_
  intro p e s m args below meth c s₁ B hml hv
  obtain ⟨rfl, hsz, hP, hK, hD0, hT⟩ := hv
  have hx := B.exec
  have hb := B.bytes
  have hr := B.returns
  have hts := atoms_spec (ws := wsL_isLeaf) B.pre
  have hown : s.vm.findClass RL = some m.cls := findClass_of_methodNamed B.named
  have hlocks := B.notSynchronized
  subst hsz
  have hD := hD0.self (sz := s.heap.size)
  generalize hAe : va_A (wO ct o ov ++ wc) s.heap.size = A at hD ⊢
  have hA : ∀ q : Nat, s.heap.size ≤ q → A q := fun q h => by rw [← hAe]; exact Or.inr h
  have hS : va_S A s.heap s.heap [] := va_S.rf
  have hP : va_P D vwCl (wO ct o ov ++ wc) s.heap := hP
  clear hAe hD0
  have hl := lv_entry ([.ref b, .int x1, .int x2, .ref o]) (n := 5) (Nat.le_of_ble_eq_true rfl)
  rw [lg_entry_eq]
  generalize (lg_sl ([.ref b, .int x1, .int x2, .ref o]) ++ List.replicate (5 - (lg_sl ([.ref b, .int x1, .int x2, .ref o])).length) Slot.unset).toArray = ls at hl ⊢
  have hl : lv_has ls 5 [(0, .ref b), (1, .int x1), (2, .int x2), (3, .ref o)] := hl
  refine lv_aload_n hx hb dL_isLeaf_0 rfl (lv_at hl 3 rfl) ?_
  refine lv_iconst (v := nI 0) hx hb dL_isLeaf_1 (by decide) ?_
  refine lv_aload_n hx hb dL_isLeaf_2 rfl (lv_at hl 0 rfl) ?_
  refine lv_iload_n hx hb dL_isLeaf_3 rfl (lv_at hl 1 rfl) ?_
  refine lv_iload_n hx hb dL_isLeaf_4 rfl (lv_at hl 2 rfl) ?_
  refine r_wB (As := [.int x1, .int x2]) (rest := [.int (nI 0), .ref o]) ⟨hx, hb, hml, hown, hts⟩ hM (cwV 2 hts gL_isLeaf_X3_isLeaf rfl rfl rfl (by decide +kernel) ⟨by show rf + 1 ≤ 9; omega, by show 8 + (4 + 11) + rl ≤ 300; omega⟩) hK hP 0 3 hwb rfl rfl hl.1 rfl (Nat.le_of_ble_eq_true rfl) dL_isLeaf_5 ⟨Nat.le_of_ble_eq_true rfl, Nat.le_of_ble_eq_true rfl⟩ ?_
  refine r_if_eqB (x := v) (tgt := 15) hx hb dL_isLeaf_8 (by decide) (fun c9 => ?_) (fun c9 => ?_)
  · subst c9
    refine lv_lconst (v := 0) hx hb dL_isLeaf_15 (by decide) ?_
    refine r_last0 hx hb hK hP hD hS dL_isLeaf_16 (fun H locs hP hD hS => ?_)
    refine lv_goto (tgt := 24) hx hb dL_isLeaf_17 (by decide) ?_
    refine lv_iconst (v := nI 0) hx hb dL_isLeaf_24 (by decide) ?_
    exact W.iret hx hb hr (fun t ht hW => ⟨⟨_, (), rfl, rfl, by show va_P D vwCl _ t.heap; rw [ht]; exact hP⟩, hS.F ht⟩) hS.2.2 dL_isLeaf_25
  · subst c9
    refine lv_lconst (v := 1) hx hb dL_isLeaf_11 (by decide) ?_
    refine lv_goto (tgt := 16) hx hb dL_isLeaf_12 (by decide) ?_
    refine r_last0 hx hb hK hP hD hS dL_isLeaf_16 (fun H locs hP hD hS => ?_)
    refine lv_goto (tgt := 24) hx hb dL_isLeaf_17 (by decide) ?_
    refine lv_iconst (v := nI 0) hx hb dL_isLeaf_24 (by decide) ?_
    exact W.iret hx hb hr (fun t ht hW => ⟨⟨_, (), rfl, rfl, by show va_P D vwCl _ t.heap; rw [ht]; exact hP⟩, hS.F ht⟩) hS.2.2 dL_isLeaf_25
set_option maxHeartbeats 8000000 in
set_option maxRecDepth 100000 in
theorem cL_isLeaf_b1 (l : Launch) (D : va_G) (ct : Nat → ClassId) (b o : Nat) (ov : Int64) (x1 x2 : Int32) (wc : va_W) (fs : List Value) (hwb : wc[0]? = some (b, .inr (3, fs))) (hM : vx_Met l yX3_isLeaf wsX3_isLeaf ({ frames := 7, cells := 1, slots := 6, locals := 120 } : Room) (bdPc D ct [.ref b, .int x1, .int x2] wc) bdQ (bdX eO) 1 6 (fun _ => False)) (sz : Nat) : Met l yL_isLeaf wsL_isLeaf ({ frames := 9, cells := 1, slots := 6, locals := 300 } : Room) (wrPcT D ct [.ref b, .int x1, .int x2, .ref o] (wO ct o ov ++ wc) sz) (wqI D (nI 1) (wO ct o ov ++ wc) (va_A (wO ct o ov ++ wc) sz)) 1 6 (va_A (wO ct o ov ++ wc) sz) := by
  refine met_ofWH (cc := cL_isLeaf) (maxL := 5) (ret := (some .int)) (hh := [(0, 17, 20, 13)]) (by decide) rfl ?_
  intro p e s m args below meth c s₁ B hml hv
  obtain ⟨rfl, hsz, hP, hK, hD0, hT⟩ := hv
  have hx := B.exec
  have hb := B.bytes
  have hr := B.returns
  have hts := atoms_spec (ws := wsL_isLeaf) B.pre
  have hown : s.vm.findClass RL = some m.cls := findClass_of_methodNamed B.named
  have hlocks := B.notSynchronized
  subst hsz
  have hD := hD0.self (sz := s.heap.size)
  generalize hAe : va_A (wO ct o ov ++ wc) s.heap.size = A at hD ⊢
  have hA : ∀ q : Nat, s.heap.size ≤ q → A q := fun q h => by rw [← hAe]; exact Or.inr h
  have hS : va_S A s.heap s.heap [] := va_S.rf
  have hP : va_P D vwCl (wO ct o ov ++ wc) s.heap := hP
  clear hAe hD0
  have hl := lv_entry ([.ref b, .int x1, .int x2, .ref o]) (n := 5) (Nat.le_of_ble_eq_true rfl)
  rw [lg_entry_eq]
  generalize (lg_sl ([.ref b, .int x1, .int x2, .ref o]) ++ List.replicate (5 - (lg_sl ([.ref b, .int x1, .int x2, .ref o])).length) Slot.unset).toArray = ls at hl ⊢
  have hl : lv_has ls 5 [(0, .ref b), (1, .int x1), (2, .int x2), (3, .ref o)] := hl
  refine lv_aload_n hx hb dL_isLeaf_0 rfl (lv_at hl 3 rfl) ?_
  refine lv_iconst (v := nI 0) hx hb dL_isLeaf_1 (by decide) ?_
  refine lv_aload_n hx hb dL_isLeaf_2 rfl (lv_at hl 0 rfl) ?_
  refine lv_iload_n hx hb dL_isLeaf_3 rfl (lv_at hl 1 rfl) ?_
  refine lv_iload_n hx hb dL_isLeaf_4 rfl (lv_at hl 2 rfl) ?_
  refine r_xC (As := [.int x1, .int x2]) (rest := [.int (nI 0), .ref o]) ⟨hx, hb, hml, hown, hts⟩ hM (cwV 2 hts gL_isLeaf_X3_isLeaf rfl rfl rfl (by decide +kernel) ⟨Nat.le_of_ble_eq_true rfl, Nat.le_of_ble_eq_true rfl⟩) hK (fun k9 q9 h9 => hP (k9 + 1) q9 h9) hT hS 0 3 hwb rfl rfl hl.1 rfl (Nat.le_of_ble_eq_true rfl) dL_isLeaf_5 ⟨Nat.le_of_ble_eq_true rfl, Nat.le_of_ble_eq_true rfl⟩ hown [] (⟨0, 17, 20, 13⟩ : ExceptionTableEntry) [] ((vx_table (x := yL_isLeaf) B (hts _ List.mem_cons_self)).trans rfl) (fun _ h9 => by cases h9) (by decide) (by decide) (hts (.classLink RL 13 "java/lang/IndexOutOfBoundsException") (List.mem_of_getElem? (i := 1) rfl)) hT.2.1.1.1 (fun H locs q9 hz hk hS => ?_)
  have hP : va_P D vwCl (wO ct o ov ++ wc) H := hP.kept (fun k9 x9 h9 => hk x9.1 ((hP k9 x9 h9).lt))
  refine lv_astore (lv' := [(4, .ref q9), (0, .ref b), (1, .int x1), (2, .int x2), (3, .ref o)]) hx hb dL_isLeaf_20 hl (by decide) rfl (fun ls hl => ?_)
  refine lv_iconst (v := nI 1) hx hb dL_isLeaf_22 (by decide) ?_
  exact W.iret hx hb hr (fun t ht hW => ⟨⟨_, (), rfl, rfl, by show va_P D vwCl _ t.heap; rw [ht]; exact hP⟩, hS.F ht⟩) hS.2.2 dL_isLeaf_23
set_option maxHeartbeats 8000000 in
set_option maxRecDepth 100000 in
theorem cL_size_ok (l : Launch) (D : va_G) (ct : Nat → ClassId) (b o : Nat) (ov : Int64) (x1 : Int32) (v : Int32) (wc : va_W) (fs : List Value) (hwb : wc[0]? = some (b, .inr (3, fs))) (rf rl : Nat) (hrf : rf ≤ 8) (hrl : rl ≤ 250) (hM : Met l yX3_size wsX3_size ({ frames := rf, cells := 0, slots := 0, locals := rl } : Room) (roPc D ct [.ref b, .int x1] wc) (rqI v) 0 0 (fun _ => False)) (sz : Nat) : Met l yL_size wsL_size ({ frames := 9, cells := 0, slots := 0, locals := 300 } : Room) (wrPcT D ct [.ref b, .int x1, .ref o] (wO ct o ov ++ wc) sz) (wqI D (nI 0) (wO ct o v.toInt64 ++ wc) (va_A (wO ct o ov ++ wc) sz)) 0 0 (va_A (wO ct o ov ++ wc) sz) := by
  refine met_ofWH (cc := cL_size) (maxL := 4) (ret := (some .int)) (hh := [(0, 9, 12, 13)]) (by decide) rfl ?_
  intro p e s m args below meth c s₁ B hml hv
  obtain ⟨rfl, hsz, hP, hK, hD0, hT⟩ := hv
  have hx := B.exec
  have hb := B.bytes
  have hr := B.returns
  have hts := atoms_spec (ws := wsL_size) B.pre
  have hown : s.vm.findClass RL = some m.cls := findClass_of_methodNamed B.named
  have hlocks := B.notSynchronized
  subst hsz
  have hD := hD0.self (sz := s.heap.size)
  generalize hAe : va_A (wO ct o ov ++ wc) s.heap.size = A at hD ⊢
  have hA : ∀ q : Nat, s.heap.size ≤ q → A q := fun q h => by rw [← hAe]; exact Or.inr h
  have hS : va_S A s.heap s.heap [] := va_S.rf
  have hP : va_P D vwCl (wO ct o ov ++ wc) s.heap := hP
  clear hAe hD0
  have hl := lv_entry ([.ref b, .int x1, .ref o]) (n := 4) (Nat.le_of_ble_eq_true rfl)
  rw [lg_entry_eq]
  generalize (lg_sl ([.ref b, .int x1, .ref o]) ++ List.replicate (4 - (lg_sl ([.ref b, .int x1, .ref o])).length) Slot.unset).toArray = ls at hl ⊢
  have hl : lv_has ls 4 [(0, .ref b), (1, .int x1), (2, .ref o)] := hl
  refine lv_aload_n hx hb dL_size_0 rfl (lv_at hl 2 rfl) ?_
  refine lv_iconst (v := nI 0) hx hb dL_size_1 (by decide) ?_
  refine lv_aload_n hx hb dL_size_2 rfl (lv_at hl 0 rfl) ?_
  refine lv_iload_n hx hb dL_size_3 rfl (lv_at hl 1 rfl) ?_
  refine r_wB (As := [.int x1]) (rest := [.int (nI 0), .ref o]) ⟨hx, hb, hml, hown, hts⟩ hM (cwV 1 hts gL_size_X3_size rfl rfl rfl (by decide +kernel) ⟨by show rf + 1 ≤ 9; omega, by show 8 + (2 + 11) + rl ≤ 300; omega⟩) hK hP 0 3 hwb rfl rfl hl.1 rfl (Nat.le_of_ble_eq_true rfl) dL_size_4 ⟨Nat.le_of_ble_eq_true rfl, Nat.le_of_ble_eq_true rfl⟩ ?_
  refine lv_i2l (v := v.toInt64) hx hb dL_size_7 rfl ?_
  refine r_last0 hx hb hK hP hD hS dL_size_8 (fun H locs hP hD hS => ?_)
  refine lv_goto (tgt := 15) hx hb dL_size_9 (by decide) ?_
  refine lv_iconst (v := nI 0) hx hb dL_size_15 (by decide) ?_
  exact W.iret hx hb hr (fun t ht hW => ⟨⟨_, (), rfl, rfl, by show va_P D vwCl _ t.heap; rw [ht]; exact hP⟩, hS.F ht⟩) hS.2.2 dL_size_16
set_option maxHeartbeats 8000000 in
set_option maxRecDepth 100000 in
theorem cL_size_b1 (l : Launch) (D : va_G) (ct : Nat → ClassId) (b o : Nat) (ov : Int64) (x1 : Int32) (wc : va_W) (fs : List Value) (hwb : wc[0]? = some (b, .inr (3, fs))) (hM : vx_Met l yX3_size wsX3_size ({ frames := 7, cells := 1, slots := 6, locals := 120 } : Room) (bdPc D ct [.ref b, .int x1] wc) bdQ (bdX eO) 1 6 (fun _ => False)) (sz : Nat) : Met l yL_size wsL_size ({ frames := 9, cells := 1, slots := 6, locals := 300 } : Room) (wrPcT D ct [.ref b, .int x1, .ref o] (wO ct o ov ++ wc) sz) (wqI D (nI 1) (wO ct o ov ++ wc) (va_A (wO ct o ov ++ wc) sz)) 1 6 (va_A (wO ct o ov ++ wc) sz) := by
  refine met_ofWH (cc := cL_size) (maxL := 4) (ret := (some .int)) (hh := [(0, 9, 12, 13)]) (by decide) rfl ?_
  intro p e s m args below meth c s₁ B hml hv
  obtain ⟨rfl, hsz, hP, hK, hD0, hT⟩ := hv
  have hx := B.exec
  have hb := B.bytes
  have hr := B.returns
  have hts := atoms_spec (ws := wsL_size) B.pre
  have hown : s.vm.findClass RL = some m.cls := findClass_of_methodNamed B.named
  have hlocks := B.notSynchronized
  subst hsz
  have hD := hD0.self (sz := s.heap.size)
  generalize hAe : va_A (wO ct o ov ++ wc) s.heap.size = A at hD ⊢
  have hA : ∀ q : Nat, s.heap.size ≤ q → A q := fun q h => by rw [← hAe]; exact Or.inr h
  have hS : va_S A s.heap s.heap [] := va_S.rf
  have hP : va_P D vwCl (wO ct o ov ++ wc) s.heap := hP
  clear hAe hD0
  have hl := lv_entry ([.ref b, .int x1, .ref o]) (n := 4) (Nat.le_of_ble_eq_true rfl)
  rw [lg_entry_eq]
  generalize (lg_sl ([.ref b, .int x1, .ref o]) ++ List.replicate (4 - (lg_sl ([.ref b, .int x1, .ref o])).length) Slot.unset).toArray = ls at hl ⊢
  have hl : lv_has ls 4 [(0, .ref b), (1, .int x1), (2, .ref o)] := hl
  refine lv_aload_n hx hb dL_size_0 rfl (lv_at hl 2 rfl) ?_
  refine lv_iconst (v := nI 0) hx hb dL_size_1 (by decide) ?_
  refine lv_aload_n hx hb dL_size_2 rfl (lv_at hl 0 rfl) ?_
  refine lv_iload_n hx hb dL_size_3 rfl (lv_at hl 1 rfl) ?_
  refine r_xC (As := [.int x1]) (rest := [.int (nI 0), .ref o]) ⟨hx, hb, hml, hown, hts⟩ hM (cwV 1 hts gL_size_X3_size rfl rfl rfl (by decide +kernel) ⟨Nat.le_of_ble_eq_true rfl, Nat.le_of_ble_eq_true rfl⟩) hK (fun k9 q9 h9 => hP (k9 + 1) q9 h9) hT hS 0 3 hwb rfl rfl hl.1 rfl (Nat.le_of_ble_eq_true rfl) dL_size_4 ⟨Nat.le_of_ble_eq_true rfl, Nat.le_of_ble_eq_true rfl⟩ hown [] (⟨0, 9, 12, 13⟩ : ExceptionTableEntry) [] ((vx_table (x := yL_size) B (hts _ List.mem_cons_self)).trans rfl) (fun _ h9 => by cases h9) (by decide) (by decide) (hts (.classLink RL 13 "java/lang/IndexOutOfBoundsException") (List.mem_of_getElem? (i := 1) rfl)) hT.2.1.1.1 (fun H locs q9 hz hk hS => ?_)
  have hP : va_P D vwCl (wO ct o ov ++ wc) H := hP.kept (fun k9 x9 h9 => hk x9.1 ((hP k9 x9 h9).lt))
  refine lv_astore_n (lv' := [(3, .ref q9), (0, .ref b), (1, .int x1), (2, .ref o)]) hx hb dL_size_12 rfl hl (by decide) rfl (fun ls hl => ?_)
  refine lv_iconst (v := nI 1) hx hb dL_size_13 (by decide) ?_
  exact W.iret hx hb hr (fun t ht hW => ⟨⟨_, (), rfl, rfl, by show va_P D vwCl _ t.heap; rw [ht]; exact hP⟩, hS.F ht⟩) hS.2.2 dL_size_14
set_option maxHeartbeats 8000000 in
set_option maxRecDepth 100000 in
theorem cL_winner_ok (l : Launch) (D : va_G) (ct : Nat → ClassId) (b o : Nat) (ov : Int64) (x1 x2 : Int32) (v : Int32) (wc : va_W) (fs : List Value) (hwb : wc[0]? = some (b, .inr (3, fs))) (rf rl : Nat) (hrf : rf ≤ 8) (hrl : rl ≤ 250) (hM : Met l yX3_winner wsX3_winner ({ frames := rf, cells := 0, slots := 0, locals := rl } : Room) (roPc D ct [.ref b, .int x1, .int x2] wc) (rqI v) 0 0 (fun _ => False)) (sz : Nat) : Met l yL_winner wsL_winner ({ frames := 9, cells := 0, slots := 0, locals := 300 } : Room) (wrPcT D ct [.ref b, .int x1, .int x2, .ref o] (wO ct o ov ++ wc) sz) (wqI D (nI 0) (wO ct o v.toInt64 ++ wc) (va_A (wO ct o ov ++ wc) sz)) 0 0 (va_A (wO ct o ov ++ wc) sz) := by
  refine met_ofWH (cc := cL_winner) (maxL := 5) (ret := (some .int)) (hh := [(0, 10, 13, 13)]) (by decide) rfl ?_
  intro p e s m args below meth c s₁ B hml hv
  obtain ⟨rfl, hsz, hP, hK, hD0, hT⟩ := hv
  have hx := B.exec
  have hb := B.bytes
  have hr := B.returns
  have hts := atoms_spec (ws := wsL_winner) B.pre
  have hown : s.vm.findClass RL = some m.cls := findClass_of_methodNamed B.named
  have hlocks := B.notSynchronized
  subst hsz
  have hD := hD0.self (sz := s.heap.size)
  generalize hAe : va_A (wO ct o ov ++ wc) s.heap.size = A at hD ⊢
  have hA : ∀ q : Nat, s.heap.size ≤ q → A q := fun q h => by rw [← hAe]; exact Or.inr h
  have hS : va_S A s.heap s.heap [] := va_S.rf
  have hP : va_P D vwCl (wO ct o ov ++ wc) s.heap := hP
  clear hAe hD0
  have hl := lv_entry ([.ref b, .int x1, .int x2, .ref o]) (n := 5) (Nat.le_of_ble_eq_true rfl)
  rw [lg_entry_eq]
  generalize (lg_sl ([.ref b, .int x1, .int x2, .ref o]) ++ List.replicate (5 - (lg_sl ([.ref b, .int x1, .int x2, .ref o])).length) Slot.unset).toArray = ls at hl ⊢
  have hl : lv_has ls 5 [(0, .ref b), (1, .int x1), (2, .int x2), (3, .ref o)] := hl
  refine lv_aload_n hx hb dL_winner_0 rfl (lv_at hl 3 rfl) ?_
  refine lv_iconst (v := nI 0) hx hb dL_winner_1 (by decide) ?_
  refine lv_aload_n hx hb dL_winner_2 rfl (lv_at hl 0 rfl) ?_
  refine lv_iload_n hx hb dL_winner_3 rfl (lv_at hl 1 rfl) ?_
  refine lv_iload_n hx hb dL_winner_4 rfl (lv_at hl 2 rfl) ?_
  refine r_wB (As := [.int x1, .int x2]) (rest := [.int (nI 0), .ref o]) ⟨hx, hb, hml, hown, hts⟩ hM (cwV 2 hts gL_winner_X3_winner rfl rfl rfl (by decide +kernel) ⟨by show rf + 1 ≤ 9; omega, by show 8 + (4 + 11) + rl ≤ 300; omega⟩) hK hP 0 3 hwb rfl rfl hl.1 rfl (Nat.le_of_ble_eq_true rfl) dL_winner_5 ⟨Nat.le_of_ble_eq_true rfl, Nat.le_of_ble_eq_true rfl⟩ ?_
  refine lv_i2l (v := v.toInt64) hx hb dL_winner_8 rfl ?_
  refine r_last0 hx hb hK hP hD hS dL_winner_9 (fun H locs hP hD hS => ?_)
  refine lv_goto (tgt := 17) hx hb dL_winner_10 (by decide) ?_
  refine lv_iconst (v := nI 0) hx hb dL_winner_17 (by decide) ?_
  exact W.iret hx hb hr (fun t ht hW => ⟨⟨_, (), rfl, rfl, by show va_P D vwCl _ t.heap; rw [ht]; exact hP⟩, hS.F ht⟩) hS.2.2 dL_winner_18
set_option maxHeartbeats 8000000 in
set_option maxRecDepth 100000 in
theorem cL_winner_b1 (l : Launch) (D : va_G) (ct : Nat → ClassId) (b o : Nat) (ov : Int64) (x1 x2 : Int32) (wc : va_W) (fs : List Value) (hwb : wc[0]? = some (b, .inr (3, fs))) (hM : vx_Met l yX3_winner wsX3_winner ({ frames := 7, cells := 1, slots := 6, locals := 120 } : Room) (bdPc D ct [.ref b, .int x1, .int x2] wc) bdQ (bdX eO) 1 6 (fun _ => False)) (sz : Nat) : Met l yL_winner wsL_winner ({ frames := 9, cells := 1, slots := 6, locals := 300 } : Room) (wrPcT D ct [.ref b, .int x1, .int x2, .ref o] (wO ct o ov ++ wc) sz) (wqI D (nI 1) (wO ct o ov ++ wc) (va_A (wO ct o ov ++ wc) sz)) 1 6 (va_A (wO ct o ov ++ wc) sz) := by
  refine met_ofWH (cc := cL_winner) (maxL := 5) (ret := (some .int)) (hh := [(0, 10, 13, 13)]) (by decide) rfl ?_
  intro p e s m args below meth c s₁ B hml hv
  obtain ⟨rfl, hsz, hP, hK, hD0, hT⟩ := hv
  have hx := B.exec
  have hb := B.bytes
  have hr := B.returns
  have hts := atoms_spec (ws := wsL_winner) B.pre
  have hown : s.vm.findClass RL = some m.cls := findClass_of_methodNamed B.named
  have hlocks := B.notSynchronized
  subst hsz
  have hD := hD0.self (sz := s.heap.size)
  generalize hAe : va_A (wO ct o ov ++ wc) s.heap.size = A at hD ⊢
  have hA : ∀ q : Nat, s.heap.size ≤ q → A q := fun q h => by rw [← hAe]; exact Or.inr h
  have hS : va_S A s.heap s.heap [] := va_S.rf
  have hP : va_P D vwCl (wO ct o ov ++ wc) s.heap := hP
  clear hAe hD0
  have hl := lv_entry ([.ref b, .int x1, .int x2, .ref o]) (n := 5) (Nat.le_of_ble_eq_true rfl)
  rw [lg_entry_eq]
  generalize (lg_sl ([.ref b, .int x1, .int x2, .ref o]) ++ List.replicate (5 - (lg_sl ([.ref b, .int x1, .int x2, .ref o])).length) Slot.unset).toArray = ls at hl ⊢
  have hl : lv_has ls 5 [(0, .ref b), (1, .int x1), (2, .int x2), (3, .ref o)] := hl
  refine lv_aload_n hx hb dL_winner_0 rfl (lv_at hl 3 rfl) ?_
  refine lv_iconst (v := nI 0) hx hb dL_winner_1 (by decide) ?_
  refine lv_aload_n hx hb dL_winner_2 rfl (lv_at hl 0 rfl) ?_
  refine lv_iload_n hx hb dL_winner_3 rfl (lv_at hl 1 rfl) ?_
  refine lv_iload_n hx hb dL_winner_4 rfl (lv_at hl 2 rfl) ?_
  refine r_xC (As := [.int x1, .int x2]) (rest := [.int (nI 0), .ref o]) ⟨hx, hb, hml, hown, hts⟩ hM (cwV 2 hts gL_winner_X3_winner rfl rfl rfl (by decide +kernel) ⟨Nat.le_of_ble_eq_true rfl, Nat.le_of_ble_eq_true rfl⟩) hK (fun k9 q9 h9 => hP (k9 + 1) q9 h9) hT hS 0 3 hwb rfl rfl hl.1 rfl (Nat.le_of_ble_eq_true rfl) dL_winner_5 ⟨Nat.le_of_ble_eq_true rfl, Nat.le_of_ble_eq_true rfl⟩ hown [] (⟨0, 10, 13, 13⟩ : ExceptionTableEntry) [] ((vx_table (x := yL_winner) B (hts _ List.mem_cons_self)).trans rfl) (fun _ h9 => by cases h9) (by decide) (by decide) (hts (.classLink RL 13 "java/lang/IndexOutOfBoundsException") (List.mem_of_getElem? (i := 1) rfl)) hT.2.1.1.1 (fun H locs q9 hz hk hS => ?_)
  have hP : va_P D vwCl (wO ct o ov ++ wc) H := hP.kept (fun k9 x9 h9 => hk x9.1 ((hP k9 x9 h9).lt))
  refine lv_astore (lv' := [(4, .ref q9), (0, .ref b), (1, .int x1), (2, .int x2), (3, .ref o)]) hx hb dL_winner_13 hl (by decide) rfl (fun ls hl => ?_)
  refine lv_iconst (v := nI 1) hx hb dL_winner_15 (by decide) ?_
  exact W.iret hx hb hr (fun t ht hW => ⟨⟨_, (), rfl, rfl, by show va_P D vwCl _ t.heap; rw [ht]; exact hP⟩, hS.F ht⟩) hS.2.2 dL_winner_16
set_option maxHeartbeats 8000000 in
set_option maxRecDepth 100000 in
theorem cL_winnerOfAll_ok (l : Launch) (D : va_G) (ct : Nat → ClassId) (b o : Nat) (ov : Int64) (x1 : Int32) (v : Int32) (wc w1 : va_W) (fs : List Value) (hwb : wc[0]? = some (b, .inr (3, fs))) (had : w1.map Prod.fst = wc.map Prod.fst) (rf rl : Nat) (hrf : rf ≤ 8) (hrl : rl ≤ 250) (hM : ∀ sz, Met l yX3_winnerOfAll wsX3_winnerOfAll ({ frames := rf, cells := 0, slots := 0, locals := rl } : Room) (wrPc D ct [.ref b, .int x1] wc sz) (wqI D v w1 (va_A wc sz)) 0 0 (va_A wc sz)) (sz : Nat) : Met l yL_winnerOfAll wsL_winnerOfAll ({ frames := 9, cells := 0, slots := 0, locals := 300 } : Room) (wrPcT D ct [.ref b, .int x1, .ref o] (wO ct o ov ++ wc) sz) (wqI D (nI 0) (wO ct o v.toInt64 ++ w1) (va_A (wO ct o ov ++ wc) sz)) 0 0 (va_A (wO ct o ov ++ wc) sz) := by
  refine met_ofWH (cc := cL_winnerOfAll) (maxL := 4) (ret := (some .int)) (hh := [(0, 9, 12, 13)]) (by decide) rfl ?_
  intro p e s m args below meth c s₁ B hml hv
  obtain ⟨rfl, hsz, hP, hK, hD0, hT⟩ := hv
  have hx := B.exec
  have hb := B.bytes
  have hr := B.returns
  have hts := atoms_spec (ws := wsL_winnerOfAll) B.pre
  have hown : s.vm.findClass RL = some m.cls := findClass_of_methodNamed B.named
  have hlocks := B.notSynchronized
  subst hsz
  have hD := hD0.self (sz := s.heap.size)
  generalize hAe : va_A (wO ct o ov ++ wc) s.heap.size = A at hD ⊢
  have hA : ∀ q : Nat, s.heap.size ≤ q → A q := fun q h => by rw [← hAe]; exact Or.inr h
  have hS : va_S A s.heap s.heap [] := va_S.rf
  have hP : va_P D vwCl (wO ct o ov ++ wc) s.heap := hP
  clear hAe hD0
  have hl := lv_entry ([.ref b, .int x1, .ref o]) (n := 4) (Nat.le_of_ble_eq_true rfl)
  rw [lg_entry_eq]
  generalize (lg_sl ([.ref b, .int x1, .ref o]) ++ List.replicate (4 - (lg_sl ([.ref b, .int x1, .ref o])).length) Slot.unset).toArray = ls at hl ⊢
  have hl : lv_has ls 4 [(0, .ref b), (1, .int x1), (2, .ref o)] := hl
  refine lv_aload_n hx hb dL_winnerOfAll_0 rfl (lv_at hl 2 rfl) ?_
  refine lv_iconst (v := nI 0) hx hb dL_winnerOfAll_1 (by decide) ?_
  refine lv_aload_n hx hb dL_winnerOfAll_2 rfl (lv_at hl 0 rfl) ?_
  refine lv_iload_n hx hb dL_winnerOfAll_3 rfl (lv_at hl 1 rfl) ?_
  refine r_wA (As := [.int x1]) (rest := [.int (nI 0), .ref o]) ⟨hx, hb, hml, hown, hts⟩ (hM _) (cwV 1 hts gL_winnerOfAll_X3_winnerOfAll rfl rfl rfl (by decide +kernel) ⟨by show rf + 1 ≤ 9; omega, by show 8 + (3 + 11) + rl ≤ 300; omega⟩) hK hP hD hS hA had 0 3 hwb rfl rfl hl.1 rfl (Nat.le_of_ble_eq_true rfl) dL_winnerOfAll_4 ⟨Nat.le_of_ble_eq_true rfl, Nat.le_of_ble_eq_true rfl⟩ (fun H locs hP hD hS => ?_)
  have hP : va_P D vwCl (wO ct o ov ++ w1) H := hP
  have hD : va_D A (wO ct o ov ++ w1) := hD
  refine lv_i2l (v := v.toInt64) hx hb dL_winnerOfAll_7 rfl ?_
  refine r_last0 hx hb hK hP hD hS dL_winnerOfAll_8 (fun H locs hP hD hS => ?_)
  refine lv_goto (tgt := 15) hx hb dL_winnerOfAll_9 (by decide) ?_
  refine lv_iconst (v := nI 0) hx hb dL_winnerOfAll_15 (by decide) ?_
  exact W.iret hx hb hr (fun t ht hW => ⟨⟨_, (), rfl, rfl, by show va_P D vwCl _ t.heap; rw [ht]; exact hP⟩, hS.F ht⟩) hS.2.2 dL_winnerOfAll_16
set_option maxHeartbeats 8000000 in
set_option maxRecDepth 100000 in
theorem cL_winnerOfAll_b1 (l : Launch) (D : va_G) (ct : Nat → ClassId) (b o : Nat) (ov : Int64) (x1 : Int32) (wc : va_W) (fs : List Value) (hwb : wc[0]? = some (b, .inr (3, fs))) (hM : vx_Met l yX3_winnerOfAll wsX3_winnerOfAll ({ frames := 7, cells := 1, slots := 6, locals := 120 } : Room) (bdPc D ct [.ref b, .int x1] wc) bdQ (bdX eO) 1 6 (fun _ => False)) (sz : Nat) : Met l yL_winnerOfAll wsL_winnerOfAll ({ frames := 9, cells := 1, slots := 6, locals := 300 } : Room) (wrPcT D ct [.ref b, .int x1, .ref o] (wO ct o ov ++ wc) sz) (wqI D (nI 1) (wO ct o ov ++ wc) (va_A (wO ct o ov ++ wc) sz)) 1 6 (va_A (wO ct o ov ++ wc) sz) := by
  refine met_ofWH (cc := cL_winnerOfAll) (maxL := 4) (ret := (some .int)) (hh := [(0, 9, 12, 13)]) (by decide) rfl ?_
  intro p e s m args below meth c s₁ B hml hv
  obtain ⟨rfl, hsz, hP, hK, hD0, hT⟩ := hv
  have hx := B.exec
  have hb := B.bytes
  have hr := B.returns
  have hts := atoms_spec (ws := wsL_winnerOfAll) B.pre
  have hown : s.vm.findClass RL = some m.cls := findClass_of_methodNamed B.named
  have hlocks := B.notSynchronized
  subst hsz
  have hD := hD0.self (sz := s.heap.size)
  generalize hAe : va_A (wO ct o ov ++ wc) s.heap.size = A at hD ⊢
  have hA : ∀ q : Nat, s.heap.size ≤ q → A q := fun q h => by rw [← hAe]; exact Or.inr h
  have hS : va_S A s.heap s.heap [] := va_S.rf
  have hP : va_P D vwCl (wO ct o ov ++ wc) s.heap := hP
  clear hAe hD0
  have hl := lv_entry ([.ref b, .int x1, .ref o]) (n := 4) (Nat.le_of_ble_eq_true rfl)
  rw [lg_entry_eq]
  generalize (lg_sl ([.ref b, .int x1, .ref o]) ++ List.replicate (4 - (lg_sl ([.ref b, .int x1, .ref o])).length) Slot.unset).toArray = ls at hl ⊢
  have hl : lv_has ls 4 [(0, .ref b), (1, .int x1), (2, .ref o)] := hl
  refine lv_aload_n hx hb dL_winnerOfAll_0 rfl (lv_at hl 2 rfl) ?_
  refine lv_iconst (v := nI 0) hx hb dL_winnerOfAll_1 (by decide) ?_
  refine lv_aload_n hx hb dL_winnerOfAll_2 rfl (lv_at hl 0 rfl) ?_
  refine lv_iload_n hx hb dL_winnerOfAll_3 rfl (lv_at hl 1 rfl) ?_
  refine r_xC (As := [.int x1]) (rest := [.int (nI 0), .ref o]) ⟨hx, hb, hml, hown, hts⟩ hM (cwV 1 hts gL_winnerOfAll_X3_winnerOfAll rfl rfl rfl (by decide +kernel) ⟨Nat.le_of_ble_eq_true rfl, Nat.le_of_ble_eq_true rfl⟩) hK (fun k9 q9 h9 => hP (k9 + 1) q9 h9) hT hS 0 3 hwb rfl rfl hl.1 rfl (Nat.le_of_ble_eq_true rfl) dL_winnerOfAll_4 ⟨Nat.le_of_ble_eq_true rfl, Nat.le_of_ble_eq_true rfl⟩ hown [] (⟨0, 9, 12, 13⟩ : ExceptionTableEntry) [] ((vx_table (x := yL_winnerOfAll) B (hts _ List.mem_cons_self)).trans rfl) (fun _ h9 => by cases h9) (by decide) (by decide) (hts (.classLink RL 13 "java/lang/IndexOutOfBoundsException") (List.mem_of_getElem? (i := 1) rfl)) hT.2.1.1.1 (fun H locs q9 hz hk hS => ?_)
  have hP : va_P D vwCl (wO ct o ov ++ wc) H := hP.kept (fun k9 x9 h9 => hk x9.1 ((hP k9 x9 h9).lt))
  refine lv_astore_n (lv' := [(3, .ref q9), (0, .ref b), (1, .int x1), (2, .ref o)]) hx hb dL_winnerOfAll_12 rfl hl (by decide) rfl (fun ls hl => ?_)
  refine lv_iconst (v := nI 1) hx hb dL_winnerOfAll_13 (by decide) ?_
  exact W.iret hx hb hr (fun t ht hW => ⟨⟨_, (), rfl, rfl, by show va_P D vwCl _ t.heap; rw [ht]; exact hP⟩, hS.F ht⟩) hS.2.2 dL_winnerOfAll_14
set_option maxHeartbeats 8000000 in
set_option maxRecDepth 100000 in
theorem cL_conflicts_ok (l : Launch) (D : va_G) (ct : Nat → ClassId) (b o : Nat) (ov : Int64) (x1 x2 : Int32) (v : Int32) (wc : va_W) (fs : List Value) (hwb : wc[0]? = some (b, .inr (3, fs))) (rf rl : Nat) (hrf : rf ≤ 8) (hrl : rl ≤ 250) (hM : Met l yX3_conflicts wsX3_conflicts ({ frames := rf, cells := 0, slots := 0, locals := rl } : Room) (roPc D ct [.ref b, .int x1, .int x2] wc) (rqI v) 0 0 (fun _ => False)) (sz : Nat) : Met l yL_conflicts wsL_conflicts ({ frames := 9, cells := 0, slots := 0, locals := 300 } : Room) (wrPcT D ct [.ref b, .int x1, .int x2, .ref o] (wO ct o ov ++ wc) sz) (wqI D (nI 0) (wO ct o v.toInt64 ++ wc) (va_A (wO ct o ov ++ wc) sz)) 0 0 (va_A (wO ct o ov ++ wc) sz) := by
  refine met_ofWH (cc := cL_conflicts) (maxL := 5) (ret := (some .int)) (hh := [(0, 10, 13, 13)]) (by decide) rfl ?_
  intro p e s m args below meth c s₁ B hml hv
  obtain ⟨rfl, hsz, hP, hK, hD0, hT⟩ := hv
  have hx := B.exec
  have hb := B.bytes
  have hr := B.returns
  have hts := atoms_spec (ws := wsL_conflicts) B.pre
  have hown : s.vm.findClass RL = some m.cls := findClass_of_methodNamed B.named
  have hlocks := B.notSynchronized
  subst hsz
  have hD := hD0.self (sz := s.heap.size)
  generalize hAe : va_A (wO ct o ov ++ wc) s.heap.size = A at hD ⊢
  have hA : ∀ q : Nat, s.heap.size ≤ q → A q := fun q h => by rw [← hAe]; exact Or.inr h
  have hS : va_S A s.heap s.heap [] := va_S.rf
  have hP : va_P D vwCl (wO ct o ov ++ wc) s.heap := hP
  clear hAe hD0
  have hl := lv_entry ([.ref b, .int x1, .int x2, .ref o]) (n := 5) (Nat.le_of_ble_eq_true rfl)
  rw [lg_entry_eq]
  generalize (lg_sl ([.ref b, .int x1, .int x2, .ref o]) ++ List.replicate (5 - (lg_sl ([.ref b, .int x1, .int x2, .ref o])).length) Slot.unset).toArray = ls at hl ⊢
  have hl : lv_has ls 5 [(0, .ref b), (1, .int x1), (2, .int x2), (3, .ref o)] := hl
  refine lv_aload_n hx hb dL_conflicts_0 rfl (lv_at hl 3 rfl) ?_
  refine lv_iconst (v := nI 0) hx hb dL_conflicts_1 (by decide) ?_
  refine lv_aload_n hx hb dL_conflicts_2 rfl (lv_at hl 0 rfl) ?_
  refine lv_iload_n hx hb dL_conflicts_3 rfl (lv_at hl 1 rfl) ?_
  refine lv_iload_n hx hb dL_conflicts_4 rfl (lv_at hl 2 rfl) ?_
  refine r_wB (As := [.int x1, .int x2]) (rest := [.int (nI 0), .ref o]) ⟨hx, hb, hml, hown, hts⟩ hM (cwV 2 hts gL_conflicts_X3_conflicts rfl rfl rfl (by decide +kernel) ⟨by show rf + 1 ≤ 9; omega, by show 8 + (4 + 11) + rl ≤ 300; omega⟩) hK hP 0 3 hwb rfl rfl hl.1 rfl (Nat.le_of_ble_eq_true rfl) dL_conflicts_5 ⟨Nat.le_of_ble_eq_true rfl, Nat.le_of_ble_eq_true rfl⟩ ?_
  refine lv_i2l (v := v.toInt64) hx hb dL_conflicts_8 rfl ?_
  refine r_last0 hx hb hK hP hD hS dL_conflicts_9 (fun H locs hP hD hS => ?_)
  refine lv_goto (tgt := 17) hx hb dL_conflicts_10 (by decide) ?_
  refine lv_iconst (v := nI 0) hx hb dL_conflicts_17 (by decide) ?_
  exact W.iret hx hb hr (fun t ht hW => ⟨⟨_, (), rfl, rfl, by show va_P D vwCl _ t.heap; rw [ht]; exact hP⟩, hS.F ht⟩) hS.2.2 dL_conflicts_18
set_option maxHeartbeats 8000000 in
set_option maxRecDepth 100000 in
theorem cL_conflicts_b1 (l : Launch) (D : va_G) (ct : Nat → ClassId) (b o : Nat) (ov : Int64) (x1 x2 : Int32) (wc : va_W) (fs : List Value) (hwb : wc[0]? = some (b, .inr (3, fs))) (hM : vx_Met l yX3_conflicts wsX3_conflicts ({ frames := 7, cells := 1, slots := 6, locals := 120 } : Room) (bdPc D ct [.ref b, .int x1, .int x2] wc) bdQ (bdX eO) 1 6 (fun _ => False)) (sz : Nat) : Met l yL_conflicts wsL_conflicts ({ frames := 9, cells := 1, slots := 6, locals := 300 } : Room) (wrPcT D ct [.ref b, .int x1, .int x2, .ref o] (wO ct o ov ++ wc) sz) (wqI D (nI 1) (wO ct o ov ++ wc) (va_A (wO ct o ov ++ wc) sz)) 1 6 (va_A (wO ct o ov ++ wc) sz) := by
  refine met_ofWH (cc := cL_conflicts) (maxL := 5) (ret := (some .int)) (hh := [(0, 10, 13, 13)]) (by decide) rfl ?_
  intro p e s m args below meth c s₁ B hml hv
  obtain ⟨rfl, hsz, hP, hK, hD0, hT⟩ := hv
  have hx := B.exec
  have hb := B.bytes
  have hr := B.returns
  have hts := atoms_spec (ws := wsL_conflicts) B.pre
  have hown : s.vm.findClass RL = some m.cls := findClass_of_methodNamed B.named
  have hlocks := B.notSynchronized
  subst hsz
  have hD := hD0.self (sz := s.heap.size)
  generalize hAe : va_A (wO ct o ov ++ wc) s.heap.size = A at hD ⊢
  have hA : ∀ q : Nat, s.heap.size ≤ q → A q := fun q h => by rw [← hAe]; exact Or.inr h
  have hS : va_S A s.heap s.heap [] := va_S.rf
  have hP : va_P D vwCl (wO ct o ov ++ wc) s.heap := hP
  clear hAe hD0
  have hl := lv_entry ([.ref b, .int x1, .int x2, .ref o]) (n := 5) (Nat.le_of_ble_eq_true rfl)
  rw [lg_entry_eq]
  generalize (lg_sl ([.ref b, .int x1, .int x2, .ref o]) ++ List.replicate (5 - (lg_sl ([.ref b, .int x1, .int x2, .ref o])).length) Slot.unset).toArray = ls at hl ⊢
  have hl : lv_has ls 5 [(0, .ref b), (1, .int x1), (2, .int x2), (3, .ref o)] := hl
  refine lv_aload_n hx hb dL_conflicts_0 rfl (lv_at hl 3 rfl) ?_
  refine lv_iconst (v := nI 0) hx hb dL_conflicts_1 (by decide) ?_
  refine lv_aload_n hx hb dL_conflicts_2 rfl (lv_at hl 0 rfl) ?_
  refine lv_iload_n hx hb dL_conflicts_3 rfl (lv_at hl 1 rfl) ?_
  refine lv_iload_n hx hb dL_conflicts_4 rfl (lv_at hl 2 rfl) ?_
  refine r_xC (As := [.int x1, .int x2]) (rest := [.int (nI 0), .ref o]) ⟨hx, hb, hml, hown, hts⟩ hM (cwV 2 hts gL_conflicts_X3_conflicts rfl rfl rfl (by decide +kernel) ⟨Nat.le_of_ble_eq_true rfl, Nat.le_of_ble_eq_true rfl⟩) hK (fun k9 q9 h9 => hP (k9 + 1) q9 h9) hT hS 0 3 hwb rfl rfl hl.1 rfl (Nat.le_of_ble_eq_true rfl) dL_conflicts_5 ⟨Nat.le_of_ble_eq_true rfl, Nat.le_of_ble_eq_true rfl⟩ hown [] (⟨0, 10, 13, 13⟩ : ExceptionTableEntry) [] ((vx_table (x := yL_conflicts) B (hts _ List.mem_cons_self)).trans rfl) (fun _ h9 => by cases h9) (by decide) (by decide) (hts (.classLink RL 13 "java/lang/IndexOutOfBoundsException") (List.mem_of_getElem? (i := 1) rfl)) hT.2.1.1.1 (fun H locs q9 hz hk hS => ?_)
  have hP : va_P D vwCl (wO ct o ov ++ wc) H := hP.kept (fun k9 x9 h9 => hk x9.1 ((hP k9 x9 h9).lt))
  refine lv_astore (lv' := [(4, .ref q9), (0, .ref b), (1, .int x1), (2, .int x2), (3, .ref o)]) hx hb dL_conflicts_13 hl (by decide) rfl (fun ls hl => ?_)
  refine lv_iconst (v := nI 1) hx hb dL_conflicts_15 (by decide) ?_
  exact W.iret hx hb hr (fun t ht hW => ⟨⟨_, (), rfl, rfl, by show va_P D vwCl _ t.heap; rw [ht]; exact hP⟩, hS.F ht⟩) hS.2.2 dL_conflicts_16
set_option maxHeartbeats 8000000 in
set_option maxRecDepth 100000 in
theorem cL_count_ok (l : Launch) (D : va_G) (ct : Nat → ClassId) (b o : Nat) (ov : Int64) (x1 x2 x3 : Int32) (v : Int32) (wc : va_W) (fs : List Value) (hwb : wc[0]? = some (b, .inr (3, fs))) (rf rl : Nat) (hrf : rf ≤ 8) (hrl : rl ≤ 250) (hM : Met l yX3_count wsX3_count ({ frames := rf, cells := 0, slots := 0, locals := rl } : Room) (roPc D ct [.ref b, .int x1, .int x2, .int x3] wc) (rqI v) 0 0 (fun _ => False)) (sz : Nat) : Met l yL_count wsL_count ({ frames := 9, cells := 0, slots := 0, locals := 300 } : Room) (wrPcT D ct [.ref b, .int x1, .int x2, .int x3, .ref o] (wO ct o ov ++ wc) sz) (wqI D (nI 0) (wO ct o v.toInt64 ++ wc) (va_A (wO ct o ov ++ wc) sz)) 0 0 (va_A (wO ct o ov ++ wc) sz) := by
  refine met_ofWH (cc := cL_count) (maxL := 6) (ret := (some .int)) (hh := [(0, 12, 15, 13)]) (by decide) rfl ?_
  intro p e s m args below meth c s₁ B hml hv
  obtain ⟨rfl, hsz, hP, hK, hD0, hT⟩ := hv
  have hx := B.exec
  have hb := B.bytes
  have hr := B.returns
  have hts := atoms_spec (ws := wsL_count) B.pre
  have hown : s.vm.findClass RL = some m.cls := findClass_of_methodNamed B.named
  have hlocks := B.notSynchronized
  subst hsz
  have hD := hD0.self (sz := s.heap.size)
  generalize hAe : va_A (wO ct o ov ++ wc) s.heap.size = A at hD ⊢
  have hA : ∀ q : Nat, s.heap.size ≤ q → A q := fun q h => by rw [← hAe]; exact Or.inr h
  have hS : va_S A s.heap s.heap [] := va_S.rf
  have hP : va_P D vwCl (wO ct o ov ++ wc) s.heap := hP
  clear hAe hD0
  have hl := lv_entry ([.ref b, .int x1, .int x2, .int x3, .ref o]) (n := 6) (Nat.le_of_ble_eq_true rfl)
  rw [lg_entry_eq]
  generalize (lg_sl ([.ref b, .int x1, .int x2, .int x3, .ref o]) ++ List.replicate (6 - (lg_sl ([.ref b, .int x1, .int x2, .int x3, .ref o])).length) Slot.unset).toArray = ls at hl ⊢
  have hl : lv_has ls 6 [(0, .ref b), (1, .int x1), (2, .int x2), (3, .int x3), (4, .ref o)] := hl
  refine lv_aload hx hb dL_count_0 (lv_at hl 4 rfl) ?_
  refine lv_iconst (v := nI 0) hx hb dL_count_2 (by decide) ?_
  refine lv_aload_n hx hb dL_count_3 rfl (lv_at hl 0 rfl) ?_
  refine lv_iload_n hx hb dL_count_4 rfl (lv_at hl 1 rfl) ?_
  refine lv_iload_n hx hb dL_count_5 rfl (lv_at hl 2 rfl) ?_
  refine lv_iload_n hx hb dL_count_6 rfl (lv_at hl 3 rfl) ?_
  refine r_wB (As := [.int x1, .int x2, .int x3]) (rest := [.int (nI 0), .ref o]) ⟨hx, hb, hml, hown, hts⟩ hM (cwV 3 hts gL_count_X3_count rfl rfl rfl (by decide +kernel) ⟨by show rf + 1 ≤ 9; omega, by show 8 + (8 + 11) + rl ≤ 300; omega⟩) hK hP 0 3 hwb rfl rfl hl.1 rfl (Nat.le_of_ble_eq_true rfl) dL_count_7 ⟨Nat.le_of_ble_eq_true rfl, Nat.le_of_ble_eq_true rfl⟩ ?_
  refine lv_i2l (v := v.toInt64) hx hb dL_count_10 rfl ?_
  refine r_last0 hx hb hK hP hD hS dL_count_11 (fun H locs hP hD hS => ?_)
  refine lv_goto (tgt := 19) hx hb dL_count_12 (by decide) ?_
  refine lv_iconst (v := nI 0) hx hb dL_count_19 (by decide) ?_
  exact W.iret hx hb hr (fun t ht hW => ⟨⟨_, (), rfl, rfl, by show va_P D vwCl _ t.heap; rw [ht]; exact hP⟩, hS.F ht⟩) hS.2.2 dL_count_20
set_option maxHeartbeats 8000000 in
set_option maxRecDepth 100000 in
theorem cL_count_b1 (l : Launch) (D : va_G) (ct : Nat → ClassId) (b o : Nat) (ov : Int64) (x1 x2 x3 : Int32) (wc : va_W) (fs : List Value) (hwb : wc[0]? = some (b, .inr (3, fs))) (hM : vx_Met l yX3_count wsX3_count ({ frames := 7, cells := 1, slots := 6, locals := 120 } : Room) (bdPc D ct [.ref b, .int x1, .int x2, .int x3] wc) bdQ (bdX eO) 1 6 (fun _ => False)) (sz : Nat) : Met l yL_count wsL_count ({ frames := 9, cells := 1, slots := 6, locals := 300 } : Room) (wrPcT D ct [.ref b, .int x1, .int x2, .int x3, .ref o] (wO ct o ov ++ wc) sz) (wqI D (nI 1) (wO ct o ov ++ wc) (va_A (wO ct o ov ++ wc) sz)) 1 6 (va_A (wO ct o ov ++ wc) sz) := by
  refine met_ofWH (cc := cL_count) (maxL := 6) (ret := (some .int)) (hh := [(0, 12, 15, 13)]) (by decide) rfl ?_
  intro p e s m args below meth c s₁ B hml hv
  obtain ⟨rfl, hsz, hP, hK, hD0, hT⟩ := hv
  have hx := B.exec
  have hb := B.bytes
  have hr := B.returns
  have hts := atoms_spec (ws := wsL_count) B.pre
  have hown : s.vm.findClass RL = some m.cls := findClass_of_methodNamed B.named
  have hlocks := B.notSynchronized
  subst hsz
  have hD := hD0.self (sz := s.heap.size)
  generalize hAe : va_A (wO ct o ov ++ wc) s.heap.size = A at hD ⊢
  have hA : ∀ q : Nat, s.heap.size ≤ q → A q := fun q h => by rw [← hAe]; exact Or.inr h
  have hS : va_S A s.heap s.heap [] := va_S.rf
  have hP : va_P D vwCl (wO ct o ov ++ wc) s.heap := hP
  clear hAe hD0
  have hl := lv_entry ([.ref b, .int x1, .int x2, .int x3, .ref o]) (n := 6) (Nat.le_of_ble_eq_true rfl)
  rw [lg_entry_eq]
  generalize (lg_sl ([.ref b, .int x1, .int x2, .int x3, .ref o]) ++ List.replicate (6 - (lg_sl ([.ref b, .int x1, .int x2, .int x3, .ref o])).length) Slot.unset).toArray = ls at hl ⊢
  have hl : lv_has ls 6 [(0, .ref b), (1, .int x1), (2, .int x2), (3, .int x3), (4, .ref o)] := hl
  refine lv_aload hx hb dL_count_0 (lv_at hl 4 rfl) ?_
  refine lv_iconst (v := nI 0) hx hb dL_count_2 (by decide) ?_
  refine lv_aload_n hx hb dL_count_3 rfl (lv_at hl 0 rfl) ?_
  refine lv_iload_n hx hb dL_count_4 rfl (lv_at hl 1 rfl) ?_
  refine lv_iload_n hx hb dL_count_5 rfl (lv_at hl 2 rfl) ?_
  refine lv_iload_n hx hb dL_count_6 rfl (lv_at hl 3 rfl) ?_
  refine r_xC (As := [.int x1, .int x2, .int x3]) (rest := [.int (nI 0), .ref o]) ⟨hx, hb, hml, hown, hts⟩ hM (cwV 3 hts gL_count_X3_count rfl rfl rfl (by decide +kernel) ⟨Nat.le_of_ble_eq_true rfl, Nat.le_of_ble_eq_true rfl⟩) hK (fun k9 q9 h9 => hP (k9 + 1) q9 h9) hT hS 0 3 hwb rfl rfl hl.1 rfl (Nat.le_of_ble_eq_true rfl) dL_count_7 ⟨Nat.le_of_ble_eq_true rfl, Nat.le_of_ble_eq_true rfl⟩ hown [] (⟨0, 12, 15, 13⟩ : ExceptionTableEntry) [] ((vx_table (x := yL_count) B (hts _ List.mem_cons_self)).trans rfl) (fun _ h9 => by cases h9) (by decide) (by decide) (hts (.classLink RL 13 "java/lang/IndexOutOfBoundsException") (List.mem_of_getElem? (i := 1) rfl)) hT.2.1.1.1 (fun H locs q9 hz hk hS => ?_)
  have hP : va_P D vwCl (wO ct o ov ++ wc) H := hP.kept (fun k9 x9 h9 => hk x9.1 ((hP k9 x9 h9).lt))
  refine lv_astore (lv' := [(5, .ref q9), (0, .ref b), (1, .int x1), (2, .int x2), (3, .int x3), (4, .ref o)]) hx hb dL_count_15 hl (by decide) rfl (fun ls hl => ?_)
  refine lv_iconst (v := nI 1) hx hb dL_count_17 (by decide) ?_
  exact W.iret hx hb hr (fun t ht hW => ⟨⟨_, (), rfl, rfl, by show va_P D vwCl _ t.heap; rw [ht]; exact hP⟩, hS.F ht⟩) hS.2.2 dL_count_18
set_option maxHeartbeats 8000000 in
set_option maxRecDepth 100000 in
theorem cL_viewAt_ok (l : Launch) (D : va_G) (ct : Nat → ClassId) (b o : Nat) (ov : Int64) (x1 x2 : Int32) (v : Int32) (wc : va_W) (fs : List Value) (hwb : wc[0]? = some (b, .inr (3, fs))) (rf rl : Nat) (hrf : rf ≤ 8) (hrl : rl ≤ 250) (hM : Met l yX3_viewAt wsX3_viewAt ({ frames := rf, cells := 0, slots := 0, locals := rl } : Room) (roPc D ct [.ref b, .int x1, .int x2] wc) (rqI v) 0 0 (fun _ => False)) (sz : Nat) : Met l yL_viewAt wsL_viewAt ({ frames := 9, cells := 0, slots := 0, locals := 300 } : Room) (wrPcT D ct [.ref b, .int x1, .int x2, .ref o] (wO ct o ov ++ wc) sz) (wqI D (nI 0) (wO ct o v.toInt64 ++ wc) (va_A (wO ct o ov ++ wc) sz)) 0 0 (va_A (wO ct o ov ++ wc) sz) := by
  refine met_ofWH (cc := cL_viewAt) (maxL := 5) (ret := (some .int)) (hh := [(0, 10, 13, 13)]) (by decide) rfl ?_
  intro p e s m args below meth c s₁ B hml hv
  obtain ⟨rfl, hsz, hP, hK, hD0, hT⟩ := hv
  have hx := B.exec
  have hb := B.bytes
  have hr := B.returns
  have hts := atoms_spec (ws := wsL_viewAt) B.pre
  have hown : s.vm.findClass RL = some m.cls := findClass_of_methodNamed B.named
  have hlocks := B.notSynchronized
  subst hsz
  have hD := hD0.self (sz := s.heap.size)
  generalize hAe : va_A (wO ct o ov ++ wc) s.heap.size = A at hD ⊢
  have hA : ∀ q : Nat, s.heap.size ≤ q → A q := fun q h => by rw [← hAe]; exact Or.inr h
  have hS : va_S A s.heap s.heap [] := va_S.rf
  have hP : va_P D vwCl (wO ct o ov ++ wc) s.heap := hP
  clear hAe hD0
  have hl := lv_entry ([.ref b, .int x1, .int x2, .ref o]) (n := 5) (Nat.le_of_ble_eq_true rfl)
  rw [lg_entry_eq]
  generalize (lg_sl ([.ref b, .int x1, .int x2, .ref o]) ++ List.replicate (5 - (lg_sl ([.ref b, .int x1, .int x2, .ref o])).length) Slot.unset).toArray = ls at hl ⊢
  have hl : lv_has ls 5 [(0, .ref b), (1, .int x1), (2, .int x2), (3, .ref o)] := hl
  refine lv_aload_n hx hb dL_viewAt_0 rfl (lv_at hl 3 rfl) ?_
  refine lv_iconst (v := nI 0) hx hb dL_viewAt_1 (by decide) ?_
  refine lv_aload_n hx hb dL_viewAt_2 rfl (lv_at hl 0 rfl) ?_
  refine lv_iload_n hx hb dL_viewAt_3 rfl (lv_at hl 1 rfl) ?_
  refine lv_iload_n hx hb dL_viewAt_4 rfl (lv_at hl 2 rfl) ?_
  refine r_wB (As := [.int x1, .int x2]) (rest := [.int (nI 0), .ref o]) ⟨hx, hb, hml, hown, hts⟩ hM (cwV 2 hts gL_viewAt_X3_viewAt rfl rfl rfl (by decide +kernel) ⟨by show rf + 1 ≤ 9; omega, by show 8 + (6 + 11) + rl ≤ 300; omega⟩) hK hP 0 3 hwb rfl rfl hl.1 rfl (Nat.le_of_ble_eq_true rfl) dL_viewAt_5 ⟨Nat.le_of_ble_eq_true rfl, Nat.le_of_ble_eq_true rfl⟩ ?_
  refine lv_i2l (v := v.toInt64) hx hb dL_viewAt_8 rfl ?_
  refine r_last0 hx hb hK hP hD hS dL_viewAt_9 (fun H locs hP hD hS => ?_)
  refine lv_goto (tgt := 17) hx hb dL_viewAt_10 (by decide) ?_
  refine lv_iconst (v := nI 0) hx hb dL_viewAt_17 (by decide) ?_
  exact W.iret hx hb hr (fun t ht hW => ⟨⟨_, (), rfl, rfl, by show va_P D vwCl _ t.heap; rw [ht]; exact hP⟩, hS.F ht⟩) hS.2.2 dL_viewAt_18
set_option maxHeartbeats 8000000 in
set_option maxRecDepth 100000 in
theorem cL_viewAt_b1 (l : Launch) (D : va_G) (ct : Nat → ClassId) (b o : Nat) (ov : Int64) (x1 x2 : Int32) (wc : va_W) (fs : List Value) (hwb : wc[0]? = some (b, .inr (3, fs))) (hM : vx_Met l yX3_viewAt wsX3_viewAt ({ frames := 7, cells := 1, slots := 6, locals := 120 } : Room) (bdPc D ct [.ref b, .int x1, .int x2] wc) bdQ (bdX eO) 1 6 (fun _ => False)) (sz : Nat) : Met l yL_viewAt wsL_viewAt ({ frames := 9, cells := 1, slots := 6, locals := 300 } : Room) (wrPcT D ct [.ref b, .int x1, .int x2, .ref o] (wO ct o ov ++ wc) sz) (wqI D (nI 1) (wO ct o ov ++ wc) (va_A (wO ct o ov ++ wc) sz)) 1 6 (va_A (wO ct o ov ++ wc) sz) := by
  refine met_ofWH (cc := cL_viewAt) (maxL := 5) (ret := (some .int)) (hh := [(0, 10, 13, 13)]) (by decide) rfl ?_
  intro p e s m args below meth c s₁ B hml hv
  obtain ⟨rfl, hsz, hP, hK, hD0, hT⟩ := hv
  have hx := B.exec
  have hb := B.bytes
  have hr := B.returns
  have hts := atoms_spec (ws := wsL_viewAt) B.pre
  have hown : s.vm.findClass RL = some m.cls := findClass_of_methodNamed B.named
  have hlocks := B.notSynchronized
  subst hsz
  have hD := hD0.self (sz := s.heap.size)
  generalize hAe : va_A (wO ct o ov ++ wc) s.heap.size = A at hD ⊢
  have hA : ∀ q : Nat, s.heap.size ≤ q → A q := fun q h => by rw [← hAe]; exact Or.inr h
  have hS : va_S A s.heap s.heap [] := va_S.rf
  have hP : va_P D vwCl (wO ct o ov ++ wc) s.heap := hP
  clear hAe hD0
  have hl := lv_entry ([.ref b, .int x1, .int x2, .ref o]) (n := 5) (Nat.le_of_ble_eq_true rfl)
  rw [lg_entry_eq]
  generalize (lg_sl ([.ref b, .int x1, .int x2, .ref o]) ++ List.replicate (5 - (lg_sl ([.ref b, .int x1, .int x2, .ref o])).length) Slot.unset).toArray = ls at hl ⊢
  have hl : lv_has ls 5 [(0, .ref b), (1, .int x1), (2, .int x2), (3, .ref o)] := hl
  refine lv_aload_n hx hb dL_viewAt_0 rfl (lv_at hl 3 rfl) ?_
  refine lv_iconst (v := nI 0) hx hb dL_viewAt_1 (by decide) ?_
  refine lv_aload_n hx hb dL_viewAt_2 rfl (lv_at hl 0 rfl) ?_
  refine lv_iload_n hx hb dL_viewAt_3 rfl (lv_at hl 1 rfl) ?_
  refine lv_iload_n hx hb dL_viewAt_4 rfl (lv_at hl 2 rfl) ?_
  refine r_xC (As := [.int x1, .int x2]) (rest := [.int (nI 0), .ref o]) ⟨hx, hb, hml, hown, hts⟩ hM (cwV 2 hts gL_viewAt_X3_viewAt rfl rfl rfl (by decide +kernel) ⟨Nat.le_of_ble_eq_true rfl, Nat.le_of_ble_eq_true rfl⟩) hK (fun k9 q9 h9 => hP (k9 + 1) q9 h9) hT hS 0 3 hwb rfl rfl hl.1 rfl (Nat.le_of_ble_eq_true rfl) dL_viewAt_5 ⟨Nat.le_of_ble_eq_true rfl, Nat.le_of_ble_eq_true rfl⟩ hown [] (⟨0, 10, 13, 13⟩ : ExceptionTableEntry) [] ((vx_table (x := yL_viewAt) B (hts _ List.mem_cons_self)).trans rfl) (fun _ h9 => by cases h9) (by decide) (by decide) (hts (.classLink RL 13 "java/lang/IndexOutOfBoundsException") (List.mem_of_getElem? (i := 1) rfl)) hT.2.1.1.1 (fun H locs q9 hz hk hS => ?_)
  have hP : va_P D vwCl (wO ct o ov ++ wc) H := hP.kept (fun k9 x9 h9 => hk x9.1 ((hP k9 x9 h9).lt))
  refine lv_astore (lv' := [(4, .ref q9), (0, .ref b), (1, .int x1), (2, .int x2), (3, .ref o)]) hx hb dL_viewAt_13 hl (by decide) rfl (fun ls hl => ?_)
  refine lv_iconst (v := nI 1) hx hb dL_viewAt_15 (by decide) ?_
  exact W.iret hx hb hr (fun t ht hW => ⟨⟨_, (), rfl, rfl, by show va_P D vwCl _ t.heap; rw [ht]; exact hP⟩, hS.F ht⟩) hS.2.2 dL_viewAt_16
