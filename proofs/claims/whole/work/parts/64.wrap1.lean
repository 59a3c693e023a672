set_option maxHeartbeats 8000000 in
set_option maxRecDepth 100000 in
theorem cL_edit_ok (l : Launch) (D : va_G) (ct : Nat → ClassId) (b o : Nat) (ov : Int64) (x1 x2 x3 x4 : Int32) (v : Int32) (wc w1 : va_W) (fs : List Value) (hwb : wc[0]? = some (b, .inr (3, fs))) (had : w1.map Prod.fst = wc.map Prod.fst) (rf rl : Nat) (hrf : rf ≤ 8) (hrl : rl ≤ 250) (hM : ∀ sz, Met l yX3_edit wsX3_edit ({ frames := rf, cells := 0, slots := 0, locals := rl } : Room) (wrPc D ct [.ref b, .int x1, .int x2, .int x3, .int x4] wc sz) (wqI D v w1 (va_A wc sz)) 0 0 (va_A wc sz)) (sz : Nat) : Met l yL_edit wsL_edit ({ frames := 9, cells := 0, slots := 0, locals := 300 } : Room) (wrPcT D ct [.ref b, .int x1, .int x2, .int x3, .int x4, .ref o] (wO ct o ov ++ wc) sz) (wqI D (nI 0) (wO ct o v.toInt64 ++ w1) (va_A (wO ct o ov ++ wc) sz)) 0 0 (va_A (wO ct o ov ++ wc) sz) := by
  refine met_ofWH (cc := cL_edit) (maxL := 7) (ret := (some .int)) (hh := [(0, 14, 17, 13), (0, 14, 21, 15), (0, 14, 25, 17)]) (by decide) rfl ?_
  intro p e s m args below meth c s₁ B hml hv
  obtain ⟨rfl, hsz, hP, hK, hD0, hT⟩ := hv
  have hx := B.exec
  have hb := B.bytes
  have hr := B.returns
  have hts := atoms_spec (ws := wsL_edit) B.pre
  have hown : s.vm.findClass RL = some m.cls := findClass_of_methodNamed B.named
  have hlocks := B.notSynchronized
  subst hsz
  have hD := hD0.self (sz := s.heap.size)
  generalize hAe : va_A (wO ct o ov ++ wc) s.heap.size = A at hD ⊢
  have hA : ∀ q : Nat, s.heap.size ≤ q → A q := fun q h => by rw [← hAe]; exact Or.inr h
  have hS : va_S A s.heap s.heap [] := va_S.rf
  have hP : va_P D vwCl (wO ct o ov ++ wc) s.heap := hP
  clear hAe hD0
  have hl := lv_entry ([.ref b, .int x1, .int x2, .int x3, .int x4, .ref o]) (n := 7) (Nat.le_of_ble_eq_true rfl)
  rw [lg_entry_eq]
  generalize (lg_sl ([.ref b, .int x1, .int x2, .int x3, .int x4, .ref o]) ++ List.replicate (7 - (lg_sl ([.ref b, .int x1, .int x2, .int x3, .int x4, .ref o])).length) Slot.unset).toArray = ls at hl ⊢
  have hl : lv_has ls 7 [(0, .ref b), (1, .int x1), (2, .int x2), (3, .int x3), (4, .int x4), (5, .ref o)] := hl
  refine lv_aload hx hb dL_edit_0 (lv_at hl 5 rfl) ?_
  refine lv_iconst (v := nI 0) hx hb dL_edit_2 (by decide) ?_
  refine lv_aload_n hx hb dL_edit_3 rfl (lv_at hl 0 rfl) ?_
  refine lv_iload_n hx hb dL_edit_4 rfl (lv_at hl 1 rfl) ?_
  refine lv_iload_n hx hb dL_edit_5 rfl (lv_at hl 2 rfl) ?_
  refine lv_iload_n hx hb dL_edit_6 rfl (lv_at hl 3 rfl) ?_
  refine lv_iload hx hb dL_edit_7 (lv_at hl 4 rfl) ?_
  refine r_wA (As := [.int x1, .int x2, .int x3, .int x4]) (rest := [.int (nI 0), .ref o]) ⟨hx, hb, hml, hown, hts⟩ (hM _) (cwV 4 hts gL_edit_X3_edit rfl rfl rfl (by decide +kernel) ⟨by show rf + 1 ≤ 9; omega, by show 8 + (6 + 11) + rl ≤ 300; omega⟩) hK hP hD hS hA had 0 3 hwb rfl rfl hl.1 rfl (Nat.le_of_ble_eq_true rfl) dL_edit_9 ⟨Nat.le_of_ble_eq_true rfl, Nat.le_of_ble_eq_true rfl⟩ (fun H locs hP hD hS => ?_)
  have hP : va_P D vwCl (wO ct o ov ++ w1) H := hP
  have hD : va_D A (wO ct o ov ++ w1) := hD
  refine lv_i2l (v := v.toInt64) hx hb dL_edit_12 rfl ?_
  refine r_last0 hx hb hK hP hD hS dL_edit_13 (fun H locs hP hD hS => ?_)
  refine lv_goto (tgt := 29) hx hb dL_edit_14 (by decide) ?_
  refine lv_iconst (v := nI 0) hx hb dL_edit_29 (by decide) ?_
  exact W.iret hx hb hr (fun t ht hW => ⟨⟨_, (), rfl, rfl, by show va_P D vwCl _ t.heap; rw [ht]; exact hP⟩, hS.F ht⟩) hS.2.2 dL_edit_30
set_option maxHeartbeats 8000000 in
set_option maxRecDepth 100000 in
theorem cL_edit_b1 (l : Launch) (D : va_G) (ct : Nat → ClassId) (b o : Nat) (ov : Int64) (x1 x2 x3 x4 : Int32) (wc : va_W) (fs : List Value) (hwb : wc[0]? = some (b, .inr (3, fs))) (hM : vx_Met l yX3_edit wsX3_edit ({ frames := 7, cells := 1, slots := 6, locals := 120 } : Room) (bdPc D ct [.ref b, .int x1, .int x2, .int x3, .int x4] wc) bdQ (bdX eO) 1 6 (fun _ => False)) (sz : Nat) : Met l yL_edit wsL_edit ({ frames := 9, cells := 1, slots := 6, locals := 300 } : Room) (wrPcT D ct [.ref b, .int x1, .int x2, .int x3, .int x4, .ref o] (wO ct o ov ++ wc) sz) (wqI D (nI 1) (wO ct o ov ++ wc) (va_A (wO ct o ov ++ wc) sz)) 1 6 (va_A (wO ct o ov ++ wc) sz) := by
  refine met_ofWH (cc := cL_edit) (maxL := 7) (ret := (some .int)) (hh := [(0, 14, 17, 13), (0, 14, 21, 15), (0, 14, 25, 17)]) (by decide) rfl ?_
  intro p e s m args below meth c s₁ B hml hv
  obtain ⟨rfl, hsz, hP, hK, hD0, hT⟩ := hv
  have hx := B.exec
  have hb := B.bytes
  have hr := B.returns
  have hts := atoms_spec (ws := wsL_edit) B.pre
  have hown : s.vm.findClass RL = some m.cls := findClass_of_methodNamed B.named
  have hlocks := B.notSynchronized
  subst hsz
  have hD := hD0.self (sz := s.heap.size)
  generalize hAe : va_A (wO ct o ov ++ wc) s.heap.size = A at hD ⊢
  have hA : ∀ q : Nat, s.heap.size ≤ q → A q := fun q h => by rw [← hAe]; exact Or.inr h
  have hS : va_S A s.heap s.heap [] := va_S.rf
  have hP : va_P D vwCl (wO ct o ov ++ wc) s.heap := hP
  clear hAe hD0
  have hl := lv_entry ([.ref b, .int x1, .int x2, .int x3, .int x4, .ref o]) (n := 7) (Nat.le_of_ble_eq_true rfl)
  rw [lg_entry_eq]
  generalize (lg_sl ([.ref b, .int x1, .int x2, .int x3, .int x4, .ref o]) ++ List.replicate (7 - (lg_sl ([.ref b, .int x1, .int x2, .int x3, .int x4, .ref o])).length) Slot.unset).toArray = ls at hl ⊢
  have hl : lv_has ls 7 [(0, .ref b), (1, .int x1), (2, .int x2), (3, .int x3), (4, .int x4), (5, .ref o)] := hl
  refine lv_aload hx hb dL_edit_0 (lv_at hl 5 rfl) ?_
  refine lv_iconst (v := nI 0) hx hb dL_edit_2 (by decide) ?_
  refine lv_aload_n hx hb dL_edit_3 rfl (lv_at hl 0 rfl) ?_
  refine lv_iload_n hx hb dL_edit_4 rfl (lv_at hl 1 rfl) ?_
  refine lv_iload_n hx hb dL_edit_5 rfl (lv_at hl 2 rfl) ?_
  refine lv_iload_n hx hb dL_edit_6 rfl (lv_at hl 3 rfl) ?_
  refine lv_iload hx hb dL_edit_7 (lv_at hl 4 rfl) ?_
  refine r_xC (As := [.int x1, .int x2, .int x3, .int x4]) (rest := [.int (nI 0), .ref o]) ⟨hx, hb, hml, hown, hts⟩ hM (cwV 4 hts gL_edit_X3_edit rfl rfl rfl (by decide +kernel) ⟨Nat.le_of_ble_eq_true rfl, Nat.le_of_ble_eq_true rfl⟩) hK (fun k9 q9 h9 => hP (k9 + 1) q9 h9) hT hS 0 3 hwb rfl rfl hl.1 rfl (Nat.le_of_ble_eq_true rfl) dL_edit_9 ⟨Nat.le_of_ble_eq_true rfl, Nat.le_of_ble_eq_true rfl⟩ hown [] (⟨0, 14, 17, 13⟩ : ExceptionTableEntry) [(⟨0, 14, 21, 15⟩ : ExceptionTableEntry), (⟨0, 14, 25, 17⟩ : ExceptionTableEntry)] ((vx_table (x := yL_edit) B (hts _ List.mem_cons_self)).trans rfl) (fun _ h9 => by cases h9) (by decide) (by decide) (hts (.classLink RL 13 "java/lang/IndexOutOfBoundsException") (List.mem_of_getElem? (i := 1) rfl)) hT.2.1.1.1 (fun H locs q9 hz hk hS => ?_)
  have hP : va_P D vwCl (wO ct o ov ++ wc) H := hP.kept (fun k9 x9 h9 => hk x9.1 ((hP k9 x9 h9).lt))
  refine lv_astore (lv' := [(6, .ref q9), (0, .ref b), (1, .int x1), (2, .int x2), (3, .int x3), (4, .int x4), (5, .ref o)]) hx hb dL_edit_17 hl (by decide) rfl (fun ls hl => ?_)
  refine lv_iconst (v := nI 1) hx hb dL_edit_19 (by decide) ?_
  exact W.iret hx hb hr (fun t ht hW => ⟨⟨_, (), rfl, rfl, by show va_P D vwCl _ t.heap; rw [ht]; exact hP⟩, hS.F ht⟩) hS.2.2 dL_edit_20
set_option maxHeartbeats 8000000 in
set_option maxRecDepth 100000 in
theorem cL_edit_b2 (l : Launch) (D : va_G) (ct : Nat → ClassId) (b o : Nat) (ov : Int64) (x1 x2 x3 x4 : Int32) (wc : va_W) (fs : List Value) (hwb : wc[0]? = some (b, .inr (3, fs))) (hM : vx_Met l yX3_edit wsX3_edit ({ frames := 7, cells := 1, slots := 6, locals := 120 } : Room) (bdPc D ct [.ref b, .int x1, .int x2, .int x3, .int x4] wc) bdQ (bdX eA) 1 6 (fun _ => False)) (sz : Nat) : Met l yL_edit wsL_edit ({ frames := 9, cells := 1, slots := 6, locals := 300 } : Room) (wrPcT D ct [.ref b, .int x1, .int x2, .int x3, .int x4, .ref o] (wO ct o ov ++ wc) sz) (wqI D (nI 2) (wO ct o ov ++ wc) (va_A (wO ct o ov ++ wc) sz)) 1 6 (va_A (wO ct o ov ++ wc) sz) := by
  refine met_ofWH (cc := cL_edit) (maxL := 7) (ret := (some .int)) (hh := [(0, 14, 17, 13), (0, 14, 21, 15), (0, 14, 25, 17)]) (by decide) rfl ?_
  intro p e s m args below meth c s₁ B hml hv
  obtain ⟨rfl, hsz, hP, hK, hD0, hT⟩ := hv
  have hx := B.exec
  have hb := B.bytes
  have hr := B.returns
  have hts := atoms_spec (ws := wsL_edit) B.pre
  have hown : s.vm.findClass RL = some m.cls := findClass_of_methodNamed B.named
  have hlocks := B.notSynchronized
  subst hsz
  have hD := hD0.self (sz := s.heap.size)
  generalize hAe : va_A (wO ct o ov ++ wc) s.heap.size = A at hD ⊢
  have hA : ∀ q : Nat, s.heap.size ≤ q → A q := fun q h => by rw [← hAe]; exact Or.inr h
  have hS : va_S A s.heap s.heap [] := va_S.rf
  have hP : va_P D vwCl (wO ct o ov ++ wc) s.heap := hP
  clear hAe hD0
  have hl := lv_entry ([.ref b, .int x1, .int x2, .int x3, .int x4, .ref o]) (n := 7) (Nat.le_of_ble_eq_true rfl)
  rw [lg_entry_eq]
  generalize (lg_sl ([.ref b, .int x1, .int x2, .int x3, .int x4, .ref o]) ++ List.replicate (7 - (lg_sl ([.ref b, .int x1, .int x2, .int x3, .int x4, .ref o])).length) Slot.unset).toArray = ls at hl ⊢
  have hl : lv_has ls 7 [(0, .ref b), (1, .int x1), (2, .int x2), (3, .int x3), (4, .int x4), (5, .ref o)] := hl
  refine lv_aload hx hb dL_edit_0 (lv_at hl 5 rfl) ?_
  refine lv_iconst (v := nI 0) hx hb dL_edit_2 (by decide) ?_
  refine lv_aload_n hx hb dL_edit_3 rfl (lv_at hl 0 rfl) ?_
  refine lv_iload_n hx hb dL_edit_4 rfl (lv_at hl 1 rfl) ?_
  refine lv_iload_n hx hb dL_edit_5 rfl (lv_at hl 2 rfl) ?_
  refine lv_iload_n hx hb dL_edit_6 rfl (lv_at hl 3 rfl) ?_
  refine lv_iload hx hb dL_edit_7 (lv_at hl 4 rfl) ?_
  refine r_xC (As := [.int x1, .int x2, .int x3, .int x4]) (rest := [.int (nI 0), .ref o]) ⟨hx, hb, hml, hown, hts⟩ hM (cwV 4 hts gL_edit_X3_edit rfl rfl rfl (by decide +kernel) ⟨Nat.le_of_ble_eq_true rfl, Nat.le_of_ble_eq_true rfl⟩) hK (fun k9 q9 h9 => hP (k9 + 1) q9 h9) hT hS 0 3 hwb rfl rfl hl.1 rfl (Nat.le_of_ble_eq_true rfl) dL_edit_9 ⟨Nat.le_of_ble_eq_true rfl, Nat.le_of_ble_eq_true rfl⟩ hown [(⟨0, 14, 17, 13⟩ : ExceptionTableEntry)] (⟨0, 14, 21, 15⟩ : ExceptionTableEntry) [(⟨0, 14, 25, 17⟩ : ExceptionTableEntry)] ((vx_table (x := yL_edit) B (hts _ List.mem_cons_self)).trans rfl) (List.forall_mem_cons.mpr ⟨Or.inr ⟨by decide, _, (hts (.classLink RL 13 "java/lang/IndexOutOfBoundsException") (List.mem_of_getElem? (i := 1) rfl)), hT.2.2.1.1⟩, (fun _ h9 => by cases h9)⟩) (by decide) (by decide) (hts (.classLink RL 15 "java/lang/IllegalArgumentException") (List.mem_of_getElem? (i := 2) rfl)) hT.2.1.1.2.1 (fun H locs q9 hz hk hS => ?_)
  have hP : va_P D vwCl (wO ct o ov ++ wc) H := hP.kept (fun k9 x9 h9 => hk x9.1 ((hP k9 x9 h9).lt))
  refine lv_astore (lv' := [(6, .ref q9), (0, .ref b), (1, .int x1), (2, .int x2), (3, .int x3), (4, .int x4), (5, .ref o)]) hx hb dL_edit_21 hl (by decide) rfl (fun ls hl => ?_)
  refine lv_iconst (v := nI 2) hx hb dL_edit_23 (by decide) ?_
  exact W.iret hx hb hr (fun t ht hW => ⟨⟨_, (), rfl, rfl, by show va_P D vwCl _ t.heap; rw [ht]; exact hP⟩, hS.F ht⟩) hS.2.2 dL_edit_24
set_option maxHeartbeats 8000000 in
set_option maxRecDepth 100000 in
theorem cL_edit_b3 (l : Launch) (D : va_G) (ct : Nat → ClassId) (b o : Nat) (ov : Int64) (x1 x2 x3 x4 : Int32) (wc : va_W) (fs : List Value) (hwb : wc[0]? = some (b, .inr (3, fs))) (hM : vx_Met l yX3_edit wsX3_edit ({ frames := 7, cells := 1, slots := 6, locals := 120 } : Room) (bdPc D ct [.ref b, .int x1, .int x2, .int x3, .int x4] wc) bdQ (bdX eS) 1 6 (fun _ => False)) (sz : Nat) : Met l yL_edit wsL_edit ({ frames := 9, cells := 1, slots := 6, locals := 300 } : Room) (wrPcT D ct [.ref b, .int x1, .int x2, .int x3, .int x4, .ref o] (wO ct o ov ++ wc) sz) (wqI D (nI 3) (wO ct o ov ++ wc) (va_A (wO ct o ov ++ wc) sz)) 1 6 (va_A (wO ct o ov ++ wc) sz) := by
  refine met_ofWH (cc := cL_edit) (maxL := 7) (ret := (some .int)) (hh := [(0, 14, 17, 13), (0, 14, 21, 15), (0, 14, 25, 17)]) (by decide) rfl ?_
  intro p e s m args below meth c s₁ B hml hv
  obtain ⟨rfl, hsz, hP, hK, hD0, hT⟩ := hv
  have hx := B.exec
  have hb := B.bytes
  have hr := B.returns
  have hts := atoms_spec (ws := wsL_edit) B.pre
  have hown : s.vm.findClass RL = some m.cls := findClass_of_methodNamed B.named
  have hlocks := B.notSynchronized
  subst hsz
  have hD := hD0.self (sz := s.heap.size)
  generalize hAe : va_A (wO ct o ov ++ wc) s.heap.size = A at hD ⊢
  have hA : ∀ q : Nat, s.heap.size ≤ q → A q := fun q h => by rw [← hAe]; exact Or.inr h
  have hS : va_S A s.heap s.heap [] := va_S.rf
  have hP : va_P D vwCl (wO ct o ov ++ wc) s.heap := hP
  clear hAe hD0
  have hl := lv_entry ([.ref b, .int x1, .int x2, .int x3, .int x4, .ref o]) (n := 7) (Nat.le_of_ble_eq_true rfl)
  rw [lg_entry_eq]
  generalize (lg_sl ([.ref b, .int x1, .int x2, .int x3, .int x4, .ref o]) ++ List.replicate (7 - (lg_sl ([.ref b, .int x1, .int x2, .int x3, .int x4, .ref o])).length) Slot.unset).toArray = ls at hl ⊢
  have hl : lv_has ls 7 [(0, .ref b), (1, .int x1), (2, .int x2), (3, .int x3), (4, .int x4), (5, .ref o)] := hl
  refine lv_aload hx hb dL_edit_0 (lv_at hl 5 rfl) ?_
  refine lv_iconst (v := nI 0) hx hb dL_edit_2 (by decide) ?_
  refine lv_aload_n hx hb dL_edit_3 rfl (lv_at hl 0 rfl) ?_
  refine lv_iload_n hx hb dL_edit_4 rfl (lv_at hl 1 rfl) ?_
  refine lv_iload_n hx hb dL_edit_5 rfl (lv_at hl 2 rfl) ?_
  refine lv_iload_n hx hb dL_edit_6 rfl (lv_at hl 3 rfl) ?_
  refine lv_iload hx hb dL_edit_7 (lv_at hl 4 rfl) ?_
  refine r_xC (As := [.int x1, .int x2, .int x3, .int x4]) (rest := [.int (nI 0), .ref o]) ⟨hx, hb, hml, hown, hts⟩ hM (cwV 4 hts gL_edit_X3_edit rfl rfl rfl (by decide +kernel) ⟨Nat.le_of_ble_eq_true rfl, Nat.le_of_ble_eq_true rfl⟩) hK (fun k9 q9 h9 => hP (k9 + 1) q9 h9) hT hS 0 3 hwb rfl rfl hl.1 rfl (Nat.le_of_ble_eq_true rfl) dL_edit_9 ⟨Nat.le_of_ble_eq_true rfl, Nat.le_of_ble_eq_true rfl⟩ hown [(⟨0, 14, 17, 13⟩ : ExceptionTableEntry), (⟨0, 14, 21, 15⟩ : ExceptionTableEntry)] (⟨0, 14, 25, 17⟩ : ExceptionTableEntry) [] ((vx_table (x := yL_edit) B (hts _ List.mem_cons_self)).trans rfl) (List.forall_mem_cons.mpr ⟨Or.inr ⟨by decide, _, (hts (.classLink RL 13 "java/lang/IndexOutOfBoundsException") (List.mem_of_getElem? (i := 1) rfl)), hT.2.2.1.2.1⟩, (List.forall_mem_cons.mpr ⟨Or.inr ⟨by decide, _, (hts (.classLink RL 15 "java/lang/IllegalArgumentException") (List.mem_of_getElem? (i := 2) rfl)), hT.2.2.1.2.2⟩, (fun _ h9 => by cases h9)⟩)⟩) (by decide) (by decide) (hts (.classLink RL 17 "java/lang/IllegalStateException") (List.mem_of_getElem? (i := 3) rfl)) hT.2.1.1.2.2 (fun H locs q9 hz hk hS => ?_)
  have hP : va_P D vwCl (wO ct o ov ++ wc) H := hP.kept (fun k9 x9 h9 => hk x9.1 ((hP k9 x9 h9).lt))
  refine lv_astore (lv' := [(6, .ref q9), (0, .ref b), (1, .int x1), (2, .int x2), (3, .int x3), (4, .int x4), (5, .ref o)]) hx hb dL_edit_25 hl (by decide) rfl (fun ls hl => ?_)
  refine lv_iconst (v := nI 3) hx hb dL_edit_27 (by decide) ?_
  exact W.iret hx hb hr (fun t ht hW => ⟨⟨_, (), rfl, rfl, by show va_P D vwCl _ t.heap; rw [ht]; exact hP⟩, hS.F ht⟩) hS.2.2 dL_edit_28
set_option maxHeartbeats 8000000 in
set_option maxRecDepth 100000 in
theorem cL_delete_ok (l : Launch) (D : va_G) (ct : Nat → ClassId) (b o : Nat) (ov : Int64) (x1 x2 x3 : Int32) (v : Int32) (wc w1 : va_W) (fs : List Value) (hwb : wc[0]? = some (b, .inr (3, fs))) (had : w1.map Prod.fst = wc.map Prod.fst) (rf rl : Nat) (hrf : rf ≤ 8) (hrl : rl ≤ 250) (hM : ∀ sz, Met l yX3_delete wsX3_delete ({ frames := rf, cells := 0, slots := 0, locals := rl } : Room) (wrPc D ct [.ref b, .int x1, .int x2, .int x3] wc sz) (wqI D v w1 (va_A wc sz)) 0 0 (va_A wc sz)) (sz : Nat) : Met l yL_delete wsL_delete ({ frames := 9, cells := 0, slots := 0, locals := 300 } : Room) (wrPcT D ct [.ref b, .int x1, .int x2, .int x3, .ref o] (wO ct o ov ++ wc) sz) (wqI D (nI 0) (wO ct o v.toInt64 ++ w1) (va_A (wO ct o ov ++ wc) sz)) 0 0 (va_A (wO ct o ov ++ wc) sz) := by
  refine met_ofWH (cc := cL_delete) (maxL := 6) (ret := (some .int)) (hh := [(0, 12, 15, 13), (0, 12, 19, 17)]) (by decide) rfl ?_
  intro p e s m args below meth c s₁ B hml hv
  obtain ⟨rfl, hsz, hP, hK, hD0, hT⟩ := hv
  have hx := B.exec
  have hb := B.bytes
  have hr := B.returns
  have hts := atoms_spec (ws := wsL_delete) B.pre
  have hown : s.vm.findClass RL = some m.cls := findClass_of_methodNamed B.named
  have hlocks := B.notSynchronized
  subst hsz
  have hD := hD0.self (sz := s.heap.size)
  generalize hAe : va_A (wO ct o ov ++ wc) s.heap.size = A at hD ⊢
  have hA : ∀ q : Nat, s.heap.size ≤ q → A q := fun q h => by rw [← hAe]; exact Or.inr h
  have hS : va_S A s.heap s.heap [] := va_S.rf
  have hP : va_P D vwCl (wO ct o ov ++ wc) s.heap := hP
  clear hAe hD0
  have hl := lv_entry ([.ref b, .int x1, .int x2, .int x3, .ref o]) (n := 6) (Nat.le_of_ble_eq_true rfl)
  rw [lg_entry_eq]
  generalize (lg_sl ([.ref b, .int x1, .int x2, .int x3, .ref o]) ++ List.replicate (6 - (lg_sl ([.ref b, .int x1, .int x2, .int x3, .ref o])).length) Slot.unset).toArray = ls at hl ⊢
  have hl : lv_has ls 6 [(0, .ref b), (1, .int x1), (2, .int x2), (3, .int x3), (4, .ref o)] := hl
  refine lv_aload hx hb dL_delete_0 (lv_at hl 4 rfl) ?_
  refine lv_iconst (v := nI 0) hx hb dL_delete_2 (by decide) ?_
  refine lv_aload_n hx hb dL_delete_3 rfl (lv_at hl 0 rfl) ?_
  refine lv_iload_n hx hb dL_delete_4 rfl (lv_at hl 1 rfl) ?_
  refine lv_iload_n hx hb dL_delete_5 rfl (lv_at hl 2 rfl) ?_
  refine lv_iload_n hx hb dL_delete_6 rfl (lv_at hl 3 rfl) ?_
  refine r_wA (As := [.int x1, .int x2, .int x3]) (rest := [.int (nI 0), .ref o]) ⟨hx, hb, hml, hown, hts⟩ (hM _) (cwV 3 hts gL_delete_X3_delete rfl rfl rfl (by decide +kernel) ⟨by show rf + 1 ≤ 9; omega, by show 8 + (5 + 11) + rl ≤ 300; omega⟩) hK hP hD hS hA had 0 3 hwb rfl rfl hl.1 rfl (Nat.le_of_ble_eq_true rfl) dL_delete_7 ⟨Nat.le_of_ble_eq_true rfl, Nat.le_of_ble_eq_true rfl⟩ (fun H locs hP hD hS => ?_)
  have hP : va_P D vwCl (wO ct o ov ++ w1) H := hP
  have hD : va_D A (wO ct o ov ++ w1) := hD
  refine lv_i2l (v := v.toInt64) hx hb dL_delete_10 rfl ?_
  refine r_last0 hx hb hK hP hD hS dL_delete_11 (fun H locs hP hD hS => ?_)
  refine lv_goto (tgt := 23) hx hb dL_delete_12 (by decide) ?_
  refine lv_iconst (v := nI 0) hx hb dL_delete_23 (by decide) ?_
  exact W.iret hx hb hr (fun t ht hW => ⟨⟨_, (), rfl, rfl, by show va_P D vwCl _ t.heap; rw [ht]; exact hP⟩, hS.F ht⟩) hS.2.2 dL_delete_24
set_option maxHeartbeats 8000000 in
set_option maxRecDepth 100000 in
theorem cL_delete_b1 (l : Launch) (D : va_G) (ct : Nat → ClassId) (b o : Nat) (ov : Int64) (x1 x2 x3 : Int32) (wc : va_W) (fs : List Value) (hwb : wc[0]? = some (b, .inr (3, fs))) (hM : vx_Met l yX3_delete wsX3_delete ({ frames := 7, cells := 1, slots := 6, locals := 120 } : Room) (bdPc D ct [.ref b, .int x1, .int x2, .int x3] wc) bdQ (bdX eO) 1 6 (fun _ => False)) (sz : Nat) : Met l yL_delete wsL_delete ({ frames := 9, cells := 1, slots := 6, locals := 300 } : Room) (wrPcT D ct [.ref b, .int x1, .int x2, .int x3, .ref o] (wO ct o ov ++ wc) sz) (wqI D (nI 1) (wO ct o ov ++ wc) (va_A (wO ct o ov ++ wc) sz)) 1 6 (va_A (wO ct o ov ++ wc) sz) := by
  refine met_ofWH (cc := cL_delete) (maxL := 6) (ret := (some .int)) (hh := [(0, 12, 15, 13), (0, 12, 19, 17)]) (by decide) rfl ?_
  intro p e s m args below meth c s₁ B hml hv
  obtain ⟨rfl, hsz, hP, hK, hD0, hT⟩ := hv
  have hx := B.exec
  have hb := B.bytes
  have hr := B.returns
  have hts := atoms_spec (ws := wsL_delete) B.pre
  have hown : s.vm.findClass RL = some m.cls := findClass_of_methodNamed B.named
  have hlocks := B.notSynchronized
  subst hsz
  have hD := hD0.self (sz := s.heap.size)
  generalize hAe : va_A (wO ct o ov ++ wc) s.heap.size = A at hD ⊢
  have hA : ∀ q : Nat, s.heap.size ≤ q → A q := fun q h => by rw [← hAe]; exact Or.inr h
  have hS : va_S A s.heap s.heap [] := va_S.rf
  have hP : va_P D vwCl (wO ct o ov ++ wc) s.heap := hP
  clear hAe hD0
  have hl := lv_entry ([.ref b, .int x1, .int x2, .int x3, .ref o]) (n := 6) (Nat.le_of_ble_eq_true rfl)
  rw [lg_entry_eq]
  generalize (lg_sl ([.ref b, .int x1, .int x2, .int x3, .ref o]) ++ List.replicate (6 - (lg_sl ([.ref b, .int x1, .int x2, .int x3, .ref o])).length) Slot.unset).toArray = ls at hl ⊢
  have hl : lv_has ls 6 [(0, .ref b), (1, .int x1), (2, .int x2), (3, .int x3), (4, .ref o)] := hl
  refine lv_aload hx hb dL_delete_0 (lv_at hl 4 rfl) ?_
  refine lv_iconst (v := nI 0) hx hb dL_delete_2 (by decide) ?_
  refine lv_aload_n hx hb dL_delete_3 rfl (lv_at hl 0 rfl) ?_
  refine lv_iload_n hx hb dL_delete_4 rfl (lv_at hl 1 rfl) ?_
  refine lv_iload_n hx hb dL_delete_5 rfl (lv_at hl 2 rfl) ?_
  refine lv_iload_n hx hb dL_delete_6 rfl (lv_at hl 3 rfl) ?_
  refine r_xC (As := [.int x1, .int x2, .int x3]) (rest := [.int (nI 0), .ref o]) ⟨hx, hb, hml, hown, hts⟩ hM (cwV 3 hts gL_delete_X3_delete rfl rfl rfl (by decide +kernel) ⟨Nat.le_of_ble_eq_true rfl, Nat.le_of_ble_eq_true rfl⟩) hK (fun k9 q9 h9 => hP (k9 + 1) q9 h9) hT hS 0 3 hwb rfl rfl hl.1 rfl (Nat.le_of_ble_eq_true rfl) dL_delete_7 ⟨Nat.le_of_ble_eq_true rfl, Nat.le_of_ble_eq_true rfl⟩ hown [] (⟨0, 12, 15, 13⟩ : ExceptionTableEntry) [(⟨0, 12, 19, 17⟩ : ExceptionTableEntry)] ((vx_table (x := yL_delete) B (hts _ List.mem_cons_self)).trans rfl) (fun _ h9 => by cases h9) (by decide) (by decide) (hts (.classLink RL 13 "java/lang/IndexOutOfBoundsException") (List.mem_of_getElem? (i := 1) rfl)) hT.2.1.1.1 (fun H locs q9 hz hk hS => ?_)
  have hP : va_P D vwCl (wO ct o ov ++ wc) H := hP.kept (fun k9 x9 h9 => hk x9.1 ((hP k9 x9 h9).lt))
  refine lv_astore (lv' := [(5, .ref q9), (0, .ref b), (1, .int x1), (2, .int x2), (3, .int x3), (4, .ref o)]) hx hb dL_delete_15 hl (by decide) rfl (fun ls hl => ?_)
  refine lv_iconst (v := nI 1) hx hb dL_delete_17 (by decide) ?_
  exact W.iret hx hb hr (fun t ht hW => ⟨⟨_, (), rfl, rfl, by show va_P D vwCl _ t.heap; rw [ht]; exact hP⟩, hS.F ht⟩) hS.2.2 dL_delete_18
set_option maxHeartbeats 8000000 in
set_option maxRecDepth 100000 in
theorem cL_delete_b2 (l : Launch) (D : va_G) (ct : Nat → ClassId) (b o : Nat) (ov : Int64) (x1 x2 x3 : Int32) (wc : va_W) (fs : List Value) (hwb : wc[0]? = some (b, .inr (3, fs))) (hM : vx_Met l yX3_delete wsX3_delete ({ frames := 7, cells := 1, slots := 6, locals := 120 } : Room) (bdPc D ct [.ref b, .int x1, .int x2, .int x3] wc) bdQ (bdX eS) 1 6 (fun _ => False)) (sz : Nat) : Met l yL_delete wsL_delete ({ frames := 9, cells := 1, slots := 6, locals := 300 } : Room) (wrPcT D ct [.ref b, .int x1, .int x2, .int x3, .ref o] (wO ct o ov ++ wc) sz) (wqI D (nI 2) (wO ct o ov ++ wc) (va_A (wO ct o ov ++ wc) sz)) 1 6 (va_A (wO ct o ov ++ wc) sz) := by
  refine met_ofWH (cc := cL_delete) (maxL := 6) (ret := (some .int)) (hh := [(0, 12, 15, 13), (0, 12, 19, 17)]) (by decide) rfl ?_
  intro p e s m args below meth c s₁ B hml hv
  obtain ⟨rfl, hsz, hP, hK, hD0, hT⟩ := hv
  have hx := B.exec
  have hb := B.bytes
  have hr := B.returns
  have hts := atoms_spec (ws := wsL_delete) B.pre
  have hown : s.vm.findClass RL = some m.cls := findClass_of_methodNamed B.named
  have hlocks := B.notSynchronized
  subst hsz
  have hD := hD0.self (sz := s.heap.size)
  generalize hAe : va_A (wO ct o ov ++ wc) s.heap.size = A at hD ⊢
  have hA : ∀ q : Nat, s.heap.size ≤ q → A q := fun q h => by rw [← hAe]; exact Or.inr h
  have hS : va_S A s.heap s.heap [] := va_S.rf
  have hP : va_P D vwCl (wO ct o ov ++ wc) s.heap := hP
  clear hAe hD0
  have hl := lv_entry ([.ref b, .int x1, .int x2, .int x3, .ref o]) (n := 6) (Nat.le_of_ble_eq_true rfl)
  rw [lg_entry_eq]
  generalize (lg_sl ([.ref b, .int x1, .int x2, .int x3, .ref o]) ++ List.replicate (6 - (lg_sl ([.ref b, .int x1, .int x2, .int x3, .ref o])).length) Slot.unset).toArray = ls at hl ⊢
  have hl : lv_has ls 6 [(0, .ref b), (1, .int x1), (2, .int x2), (3, .int x3), (4, .ref o)] := hl
  refine lv_aload hx hb dL_delete_0 (lv_at hl 4 rfl) ?_
  refine lv_iconst (v := nI 0) hx hb dL_delete_2 (by decide) ?_
  refine lv_aload_n hx hb dL_delete_3 rfl (lv_at hl 0 rfl) ?_
  refine lv_iload_n hx hb dL_delete_4 rfl (lv_at hl 1 rfl) ?_
  refine lv_iload_n hx hb dL_delete_5 rfl (lv_at hl 2 rfl) ?_
  refine lv_iload_n hx hb dL_delete_6 rfl (lv_at hl 3 rfl) ?_
  refine r_xC (As := [.int x1, .int x2, .int x3]) (rest := [.int (nI 0), .ref o]) ⟨hx, hb, hml, hown, hts⟩ hM (cwV 3 hts gL_delete_X3_delete rfl rfl rfl (by decide +kernel) ⟨Nat.le_of_ble_eq_true rfl, Nat.le_of_ble_eq_true rfl⟩) hK (fun k9 q9 h9 => hP (k9 + 1) q9 h9) hT hS 0 3 hwb rfl rfl hl.1 rfl (Nat.le_of_ble_eq_true rfl) dL_delete_7 ⟨Nat.le_of_ble_eq_true rfl, Nat.le_of_ble_eq_true rfl⟩ hown [(⟨0, 12, 15, 13⟩ : ExceptionTableEntry)] (⟨0, 12, 19, 17⟩ : ExceptionTableEntry) [] ((vx_table (x := yL_delete) B (hts _ List.mem_cons_self)).trans rfl) (List.forall_mem_cons.mpr ⟨Or.inr ⟨by decide, _, (hts (.classLink RL 13 "java/lang/IndexOutOfBoundsException") (List.mem_of_getElem? (i := 1) rfl)), hT.2.2.1.2.1⟩, (fun _ h9 => by cases h9)⟩) (by decide) (by decide) (hts (.classLink RL 17 "java/lang/IllegalStateException") (List.mem_of_getElem? (i := 2) rfl)) hT.2.1.1.2.2 (fun H locs q9 hz hk hS => ?_)
  have hP : va_P D vwCl (wO ct o ov ++ wc) H := hP.kept (fun k9 x9 h9 => hk x9.1 ((hP k9 x9 h9).lt))
  refine lv_astore (lv' := [(5, .ref q9), (0, .ref b), (1, .int x1), (2, .int x2), (3, .int x3), (4, .ref o)]) hx hb dL_delete_19 hl (by decide) rfl (fun ls hl => ?_)
  refine lv_iconst (v := nI 2) hx hb dL_delete_21 (by decide) ?_
  exact W.iret hx hb hr (fun t ht hW => ⟨⟨_, (), rfl, rfl, by show va_P D vwCl _ t.heap; rw [ht]; exact hP⟩, hS.F ht⟩) hS.2.2 dL_delete_22
set_option maxHeartbeats 8000000 in
set_option maxRecDepth 100000 in
theorem cL_setDepth_ok (l : Launch) (D : va_G) (ct : Nat → ClassId) (b o : Nat) (ov : Int64) (x1 x2 : Int32) (v : Int32) (wc w1 : va_W) (fs : List Value) (hwb : wc[0]? = some (b, .inr (3, fs))) (had : w1.map Prod.fst = wc.map Prod.fst) (rf rl : Nat) (hrf : rf ≤ 8) (hrl : rl ≤ 250) (hM : ∀ sz, Met l yX3_setDepth wsX3_setDepth ({ frames := rf, cells := 0, slots := 0, locals := rl } : Room) (wrPc D ct [.ref b, .int x1, .int x2] wc sz) (wqI D v w1 (va_A wc sz)) 0 0 (va_A wc sz)) (sz : Nat) : Met l yL_setDepth wsL_setDepth ({ frames := 9, cells := 0, slots := 0, locals := 300 } : Room) (wrPcT D ct [.ref b, .int x1, .int x2, .ref o] (wO ct o ov ++ wc) sz) (wqI D (nI 0) (wO ct o v.toInt64 ++ w1) (va_A (wO ct o ov ++ wc) sz)) 0 0 (va_A (wO ct o ov ++ wc) sz) := by
  refine met_ofWH (cc := cL_setDepth) (maxL := 5) (ret := (some .int)) (hh := [(0, 10, 13, 13), (0, 10, 17, 15)]) (by decide) rfl ?_
  intro p e s m args below meth c s₁ B hml hv
  obtain ⟨rfl, hsz, hP, hK, hD0, hT⟩ := hv
  have hx := B.exec
  have hb := B.bytes
  have hr := B.returns
  have hts := atoms_spec (ws := wsL_setDepth) B.pre
  have hown : s.vm.findClass RL = some m.cls := findClass_of_methodNamed B.named
  have hlocks := B.notSynchronized
  subst hsz
  have hD := hD0.self (sz := s.heap.size)
  generalize hAe : va_A (wO ct o ov ++ wc) s.heap.size = A at hD ⊢
  have hA : ∀ q : Nat, s.heap.size ≤ q → A q := fun q h => by rw [← hAe]; exact Or.inr h
  have hS : va_S A s.heap s.heap [] := va_S.rf
  have hP : va_P D vwCl (wO ct o ov ++ wc) s.heap := hP
  clear hAe hD0
  have hl := lv_entry ([.ref b, .int x1, .int x2, .ref o]) (n := 5) (Nat.le_of_ble_eq_true rfl)
  rw [lg_entry_eq]
  generalize (lg_sl ([.ref b, .int x1, .int x2, .ref o]) ++ List.replicate (5 - (lg_sl ([.ref b, .int x1, .int x2, .ref o])).length) Slot.unset).toArray = ls at hl ⊢
  have hl : lv_has ls 5 [(0, .ref b), (1, .int x1), (2, .int x2), (3, .ref o)] := hl
  refine lv_aload_n hx hb dL_setDepth_0 rfl (lv_at hl 3 rfl) ?_
  refine lv_iconst (v := nI 0) hx hb dL_setDepth_1 (by decide) ?_
  refine lv_aload_n hx hb dL_setDepth_2 rfl (lv_at hl 0 rfl) ?_
  refine lv_iload_n hx hb dL_setDepth_3 rfl (lv_at hl 1 rfl) ?_
  refine lv_iload_n hx hb dL_setDepth_4 rfl (lv_at hl 2 rfl) ?_
  refine r_wA (As := [.int x1, .int x2]) (rest := [.int (nI 0), .ref o]) ⟨hx, hb, hml, hown, hts⟩ (hM _) (cwV 2 hts gL_setDepth_X3_setDepth rfl rfl rfl (by decide +kernel) ⟨by show rf + 1 ≤ 9; omega, by show 8 + (4 + 11) + rl ≤ 300; omega⟩) hK hP hD hS hA had 0 3 hwb rfl rfl hl.1 rfl (Nat.le_of_ble_eq_true rfl) dL_setDepth_5 ⟨Nat.le_of_ble_eq_true rfl, Nat.le_of_ble_eq_true rfl⟩ (fun H locs hP hD hS => ?_)
  have hP : va_P D vwCl (wO ct o ov ++ w1) H := hP
  have hD : va_D A (wO ct o ov ++ w1) := hD
  refine lv_i2l (v := v.toInt64) hx hb dL_setDepth_8 rfl ?_
  refine r_last0 hx hb hK hP hD hS dL_setDepth_9 (fun H locs hP hD hS => ?_)
  refine lv_goto (tgt := 21) hx hb dL_setDepth_10 (by decide) ?_
  refine lv_iconst (v := nI 0) hx hb dL_setDepth_21 (by decide) ?_
  exact W.iret hx hb hr (fun t ht hW => ⟨⟨_, (), rfl, rfl, by show va_P D vwCl _ t.heap; rw [ht]; exact hP⟩, hS.F ht⟩) hS.2.2 dL_setDepth_22
set_option maxHeartbeats 8000000 in
set_option maxRecDepth 100000 in
theorem cL_setDepth_b1 (l : Launch) (D : va_G) (ct : Nat → ClassId) (b o : Nat) (ov : Int64) (x1 x2 : Int32) (wc : va_W) (fs : List Value) (hwb : wc[0]? = some (b, .inr (3, fs))) (hM : vx_Met l yX3_setDepth wsX3_setDepth ({ frames := 7, cells := 1, slots := 6, locals := 120 } : Room) (bdPc D ct [.ref b, .int x1, .int x2] wc) bdQ (bdX eO) 1 6 (fun _ => False)) (sz : Nat) : Met l yL_setDepth wsL_setDepth ({ frames := 9, cells := 1, slots := 6, locals := 300 } : Room) (wrPcT D ct [.ref b, .int x1, .int x2, .ref o] (wO ct o ov ++ wc) sz) (wqI D (nI 1) (wO ct o ov ++ wc) (va_A (wO ct o ov ++ wc) sz)) 1 6 (va_A (wO ct o ov ++ wc) sz) := by
  refine met_ofWH (cc := cL_setDepth) (maxL := 5) (ret := (some .int)) (hh := [(0, 10, 13, 13), (0, 10, 17, 15)]) (by decide) rfl ?_
  intro p e s m args below meth c s₁ B hml hv
  obtain ⟨rfl, hsz, hP, hK, hD0, hT⟩ := hv
  have hx := B.exec
  have hb := B.bytes
  have hr := B.returns
  have hts := atoms_spec (ws := wsL_setDepth) B.pre
  have hown : s.vm.findClass RL = some m.cls := findClass_of_methodNamed B.named
  have hlocks := B.notSynchronized
  subst hsz
  have hD := hD0.self (sz := s.heap.size)
  generalize hAe : va_A (wO ct o ov ++ wc) s.heap.size = A at hD ⊢
  have hA : ∀ q : Nat, s.heap.size ≤ q → A q := fun q h => by rw [← hAe]; exact Or.inr h
  have hS : va_S A s.heap s.heap [] := va_S.rf
  have hP : va_P D vwCl (wO ct o ov ++ wc) s.heap := hP
  clear hAe hD0
  have hl := lv_entry ([.ref b, .int x1, .int x2, .ref o]) (n := 5) (Nat.le_of_ble_eq_true rfl)
  rw [lg_entry_eq]
  generalize (lg_sl ([.ref b, .int x1, .int x2, .ref o]) ++ List.replicate (5 - (lg_sl ([.ref b, .int x1, .int x2, .ref o])).length) Slot.unset).toArray = ls at hl ⊢
  have hl : lv_has ls 5 [(0, .ref b), (1, .int x1), (2, .int x2), (3, .ref o)] := hl
  refine lv_aload_n hx hb dL_setDepth_0 rfl (lv_at hl 3 rfl) ?_
  refine lv_iconst (v := nI 0) hx hb dL_setDepth_1 (by decide) ?_
  refine lv_aload_n hx hb dL_setDepth_2 rfl (lv_at hl 0 rfl) ?_
  refine lv_iload_n hx hb dL_setDepth_3 rfl (lv_at hl 1 rfl) ?_
  refine lv_iload_n hx hb dL_setDepth_4 rfl (lv_at hl 2 rfl) ?_
  refine r_xC (As := [.int x1, .int x2]) (rest := [.int (nI 0), .ref o]) ⟨hx, hb, hml, hown, hts⟩ hM (cwV 2 hts gL_setDepth_X3_setDepth rfl rfl rfl (by decide +kernel) ⟨Nat.le_of_ble_eq_true rfl, Nat.le_of_ble_eq_true rfl⟩) hK (fun k9 q9 h9 => hP (k9 + 1) q9 h9) hT hS 0 3 hwb rfl rfl hl.1 rfl (Nat.le_of_ble_eq_true rfl) dL_setDepth_5 ⟨Nat.le_of_ble_eq_true rfl, Nat.le_of_ble_eq_true rfl⟩ hown [] (⟨0, 10, 13, 13⟩ : ExceptionTableEntry) [(⟨0, 10, 17, 15⟩ : ExceptionTableEntry)] ((vx_table (x := yL_setDepth) B (hts _ List.mem_cons_self)).trans rfl) (fun _ h9 => by cases h9) (by decide) (by decide) (hts (.classLink RL 13 "java/lang/IndexOutOfBoundsException") (List.mem_of_getElem? (i := 1) rfl)) hT.2.1.1.1 (fun H locs q9 hz hk hS => ?_)
  have hP : va_P D vwCl (wO ct o ov ++ wc) H := hP.kept (fun k9 x9 h9 => hk x9.1 ((hP k9 x9 h9).lt))
  refine lv_astore (lv' := [(4, .ref q9), (0, .ref b), (1, .int x1), (2, .int x2), (3, .ref o)]) hx hb dL_setDepth_13 hl (by decide) rfl (fun ls hl => ?_)
  refine lv_iconst (v := nI 1) hx hb dL_setDepth_15 (by decide) ?_
  exact W.iret hx hb hr (fun t ht hW => ⟨⟨_, (), rfl, rfl, by show va_P D vwCl _ t.heap; rw [ht]; exact hP⟩, hS.F ht⟩) hS.2.2 dL_setDepth_16
set_option maxHeartbeats 8000000 in
set_option maxRecDepth 100000 in
theorem cL_setDepth_b2 (l : Launch) (D : va_G) (ct : Nat → ClassId) (b o : Nat) (ov : Int64) (x1 x2 : Int32) (wc : va_W) (fs : List Value) (hwb : wc[0]? = some (b, .inr (3, fs))) (hM : vx_Met l yX3_setDepth wsX3_setDepth ({ frames := 7, cells := 1, slots := 6, locals := 120 } : Room) (bdPc D ct [.ref b, .int x1, .int x2] wc) bdQ (bdX eA) 1 6 (fun _ => False)) (sz : Nat) : Met l yL_setDepth wsL_setDepth ({ frames := 9, cells := 1, slots := 6, locals := 300 } : Room) (wrPcT D ct [.ref b, .int x1, .int x2, .ref o] (wO ct o ov ++ wc) sz) (wqI D (nI 2) (wO ct o ov ++ wc) (va_A (wO ct o ov ++ wc) sz)) 1 6 (va_A (wO ct o ov ++ wc) sz) := by
  refine met_ofWH (cc := cL_setDepth) (maxL := 5) (ret := (some .int)) (hh := [(0, 10, 13, 13), (0, 10, 17, 15)]) (by decide) rfl ?_
  intro p e s m args below meth c s₁ B hml hv
  obtain ⟨rfl, hsz, hP, hK, hD0, hT⟩ := hv
  have hx := B.exec
  have hb := B.bytes
  have hr := B.returns
  have hts := atoms_spec (ws := wsL_setDepth) B.pre
  have hown : s.vm.findClass RL = some m.cls := findClass_of_methodNamed B.named
  have hlocks := B.notSynchronized
  subst hsz
  have hD := hD0.self (sz := s.heap.size)
  generalize hAe : va_A (wO ct o ov ++ wc) s.heap.size = A at hD ⊢
  have hA : ∀ q : Nat, s.heap.size ≤ q → A q := fun q h => by rw [← hAe]; exact Or.inr h
  have hS : va_S A s.heap s.heap [] := va_S.rf
  have hP : va_P D vwCl (wO ct o ov ++ wc) s.heap := hP
  clear hAe hD0
  have hl := lv_entry ([.ref b, .int x1, .int x2, .ref o]) (n := 5) (Nat.le_of_ble_eq_true rfl)
  rw [lg_entry_eq]
  generalize (lg_sl ([.ref b, .int x1, .int x2, .ref o]) ++ List.replicate (5 - (lg_sl ([.ref b, .int x1, .int x2, .ref o])).length) Slot.unset).toArray = ls at hl ⊢
  have hl : lv_has ls 5 [(0, .ref b), (1, .int x1), (2, .int x2), (3, .ref o)] := hl
  refine lv_aload_n hx hb dL_setDepth_0 rfl (lv_at hl 3 rfl) ?_
  refine lv_iconst (v := nI 0) hx hb dL_setDepth_1 (by decide) ?_
  refine lv_aload_n hx hb dL_setDepth_2 rfl (lv_at hl 0 rfl) ?_
  refine lv_iload_n hx hb dL_setDepth_3 rfl (lv_at hl 1 rfl) ?_
  refine lv_iload_n hx hb dL_setDepth_4 rfl (lv_at hl 2 rfl) ?_
  refine r_xC (As := [.int x1, .int x2]) (rest := [.int (nI 0), .ref o]) ⟨hx, hb, hml, hown, hts⟩ hM (cwV 2 hts gL_setDepth_X3_setDepth rfl rfl rfl (by decide +kernel) ⟨Nat.le_of_ble_eq_true rfl, Nat.le_of_ble_eq_true rfl⟩) hK (fun k9 q9 h9 => hP (k9 + 1) q9 h9) hT hS 0 3 hwb rfl rfl hl.1 rfl (Nat.le_of_ble_eq_true rfl) dL_setDepth_5 ⟨Nat.le_of_ble_eq_true rfl, Nat.le_of_ble_eq_true rfl⟩ hown [(⟨0, 10, 13, 13⟩ : ExceptionTableEntry)] (⟨0, 10, 17, 15⟩ : ExceptionTableEntry) [] ((vx_table (x := yL_setDepth) B (hts _ List.mem_cons_self)).trans rfl) (List.forall_mem_cons.mpr ⟨Or.inr ⟨by decide, _, (hts (.classLink RL 13 "java/lang/IndexOutOfBoundsException") (List.mem_of_getElem? (i := 1) rfl)), hT.2.2.1.1⟩, (fun _ h9 => by cases h9)⟩) (by decide) (by decide) (hts (.classLink RL 15 "java/lang/IllegalArgumentException") (List.mem_of_getElem? (i := 2) rfl)) hT.2.1.1.2.1 (fun H locs q9 hz hk hS => ?_)
  have hP : va_P D vwCl (wO ct o ov ++ wc) H := hP.kept (fun k9 x9 h9 => hk x9.1 ((hP k9 x9 h9).lt))
  refine lv_astore (lv' := [(4, .ref q9), (0, .ref b), (1, .int x1), (2, .int x2), (3, .ref o)]) hx hb dL_setDepth_17 hl (by decide) rfl (fun ls hl => ?_)
  refine lv_iconst (v := nI 2) hx hb dL_setDepth_19 (by decide) ?_
  exact W.iret hx hb hr (fun t ht hW => ⟨⟨_, (), rfl, rfl, by show va_P D vwCl _ t.heap; rw [ht]; exact hP⟩, hS.F ht⟩) hS.2.2 dL_setDepth_20
set_option maxHeartbeats 8000000 in
set_option maxRecDepth 100000 in
theorem cL_wipe_ok (l : Launch) (D : va_G) (ct : Nat → ClassId) (b o : Nat) (ov : Int64) (x1 : Int32) (v : Int32) (wc w1 : va_W) (fs : List Value) (hwb : wc[0]? = some (b, .inr (3, fs))) (had : w1.map Prod.fst = wc.map Prod.fst) (rf rl : Nat) (hrf : rf ≤ 8) (hrl : rl ≤ 250) (hM : ∀ sz, Met l yX3_wipe wsX3_wipe ({ frames := rf, cells := 0, slots := 0, locals := rl } : Room) (wrPc D ct [.ref b, .int x1] wc sz) (wqI D v w1 (va_A wc sz)) 0 0 (va_A wc sz)) (sz : Nat) : Met l yL_wipe wsL_wipe ({ frames := 9, cells := 0, slots := 0, locals := 300 } : Room) (wrPcT D ct [.ref b, .int x1, .ref o] (wO ct o ov ++ wc) sz) (wqI D (nI 0) (wO ct o v.toInt64 ++ w1) (va_A (wO ct o ov ++ wc) sz)) 0 0 (va_A (wO ct o ov ++ wc) sz) := by
  refine met_ofWH (cc := cL_wipe) (maxL := 4) (ret := (some .int)) (hh := [(0, 9, 12, 13)]) (by decide) rfl ?_
  intro p e s m args below meth c s₁ B hml hv
  obtain ⟨rfl, hsz, hP, hK, hD0, hT⟩ := hv
  have hx := B.exec
  have hb := B.bytes
  have hr := B.returns
  have hts := atoms_spec (ws := wsL_wipe) B.pre
  have hown : s.vm.findClass RL = some m.cls := findClass_of_methodNamed B.named
  have hlocks := B.notSynchronized
  subst hsz
  have hD := hD0.self (sz := s.heap.size)
  generalize hAe : va_A (wO ct o ov ++ wc) s.heap.size = A at hD ⊢
  have hA : ∀ q : Nat, s.heap.size ≤ q → A q := fun q h => by rw [← hAe]; exact Or.inr h
  have hS : va_S A s.heap s.heap [] := va_S.rf
  have hP : va_P D vwCl (wO ct o ov ++ wc) s.heap := hP
  clear hAe hD0
  have hl := lv_entry ([.ref b, .int x1, .ref o]) (n := 4) (Nat.le_of_ble_eq_true rfl)
  rw [lg_entry_eq]
  generalize (lg_sl ([.ref b, .int x1, .ref o]) ++ List.replicate (4 - (lg_sl ([.ref b, .int x1, .ref o])).length) Slot.unset).toArray = ls at hl ⊢
  have hl : lv_has ls 4 [(0, .ref b), (1, .int x1), (2, .ref o)] := hl
  refine lv_aload_n hx hb dL_wipe_0 rfl (lv_at hl 2 rfl) ?_
  refine lv_iconst (v := nI 0) hx hb dL_wipe_1 (by decide) ?_
  refine lv_aload_n hx hb dL_wipe_2 rfl (lv_at hl 0 rfl) ?_
  refine lv_iload_n hx hb dL_wipe_3 rfl (lv_at hl 1 rfl) ?_
  refine r_wA (As := [.int x1]) (rest := [.int (nI 0), .ref o]) ⟨hx, hb, hml, hown, hts⟩ (hM _) (cwV 1 hts gL_wipe_X3_wipe rfl rfl rfl (by decide +kernel) ⟨by show rf + 1 ≤ 9; omega, by show 8 + (4 + 11) + rl ≤ 300; omega⟩) hK hP hD hS hA had 0 3 hwb rfl rfl hl.1 rfl (Nat.le_of_ble_eq_true rfl) dL_wipe_4 ⟨Nat.le_of_ble_eq_true rfl, Nat.le_of_ble_eq_true rfl⟩ (fun H locs hP hD hS => ?_)
  have hP : va_P D vwCl (wO ct o ov ++ w1) H := hP
  have hD : va_D A (wO ct o ov ++ w1) := hD
  refine lv_i2l (v := v.toInt64) hx hb dL_wipe_7 rfl ?_
  refine r_last0 hx hb hK hP hD hS dL_wipe_8 (fun H locs hP hD hS => ?_)
  refine lv_goto (tgt := 15) hx hb dL_wipe_9 (by decide) ?_
  refine lv_iconst (v := nI 0) hx hb dL_wipe_15 (by decide) ?_
  exact W.iret hx hb hr (fun t ht hW => ⟨⟨_, (), rfl, rfl, by show va_P D vwCl _ t.heap; rw [ht]; exact hP⟩, hS.F ht⟩) hS.2.2 dL_wipe_16
set_option maxHeartbeats 8000000 in
set_option maxRecDepth 100000 in
theorem cL_wipe_b1 (l : Launch) (D : va_G) (ct : Nat → ClassId) (b o : Nat) (ov : Int64) (x1 : Int32) (wc : va_W) (fs : List Value) (hwb : wc[0]? = some (b, .inr (3, fs))) (hM : vx_Met l yX3_wipe wsX3_wipe ({ frames := 7, cells := 1, slots := 6, locals := 120 } : Room) (bdPc D ct [.ref b, .int x1] wc) bdQ (bdX eO) 1 6 (fun _ => False)) (sz : Nat) : Met l yL_wipe wsL_wipe ({ frames := 9, cells := 1, slots := 6, locals := 300 } : Room) (wrPcT D ct [.ref b, .int x1, .ref o] (wO ct o ov ++ wc) sz) (wqI D (nI 1) (wO ct o ov ++ wc) (va_A (wO ct o ov ++ wc) sz)) 1 6 (va_A (wO ct o ov ++ wc) sz) := by
  refine met_ofWH (cc := cL_wipe) (maxL := 4) (ret := (some .int)) (hh := [(0, 9, 12, 13)]) (by decide) rfl ?_
  intro p e s m args below meth c s₁ B hml hv
  obtain ⟨rfl, hsz, hP, hK, hD0, hT⟩ := hv
  have hx := B.exec
  have hb := B.bytes
  have hr := B.returns
  have hts := atoms_spec (ws := wsL_wipe) B.pre
  have hown : s.vm.findClass RL = some m.cls := findClass_of_methodNamed B.named
  have hlocks := B.notSynchronized
  subst hsz
  have hD := hD0.self (sz := s.heap.size)
  generalize hAe : va_A (wO ct o ov ++ wc) s.heap.size = A at hD ⊢
  have hA : ∀ q : Nat, s.heap.size ≤ q → A q := fun q h => by rw [← hAe]; exact Or.inr h
  have hS : va_S A s.heap s.heap [] := va_S.rf
  have hP : va_P D vwCl (wO ct o ov ++ wc) s.heap := hP
  clear hAe hD0
  have hl := lv_entry ([.ref b, .int x1, .ref o]) (n := 4) (Nat.le_of_ble_eq_true rfl)
  rw [lg_entry_eq]
  generalize (lg_sl ([.ref b, .int x1, .ref o]) ++ List.replicate (4 - (lg_sl ([.ref b, .int x1, .ref o])).length) Slot.unset).toArray = ls at hl ⊢
  have hl : lv_has ls 4 [(0, .ref b), (1, .int x1), (2, .ref o)] := hl
  refine lv_aload_n hx hb dL_wipe_0 rfl (lv_at hl 2 rfl) ?_
  refine lv_iconst (v := nI 0) hx hb dL_wipe_1 (by decide) ?_
  refine lv_aload_n hx hb dL_wipe_2 rfl (lv_at hl 0 rfl) ?_
  refine lv_iload_n hx hb dL_wipe_3 rfl (lv_at hl 1 rfl) ?_
  refine r_xC (As := [.int x1]) (rest := [.int (nI 0), .ref o]) ⟨hx, hb, hml, hown, hts⟩ hM (cwV 1 hts gL_wipe_X3_wipe rfl rfl rfl (by decide +kernel) ⟨Nat.le_of_ble_eq_true rfl, Nat.le_of_ble_eq_true rfl⟩) hK (fun k9 q9 h9 => hP (k9 + 1) q9 h9) hT hS 0 3 hwb rfl rfl hl.1 rfl (Nat.le_of_ble_eq_true rfl) dL_wipe_4 ⟨Nat.le_of_ble_eq_true rfl, Nat.le_of_ble_eq_true rfl⟩ hown [] (⟨0, 9, 12, 13⟩ : ExceptionTableEntry) [] ((vx_table (x := yL_wipe) B (hts _ List.mem_cons_self)).trans rfl) (fun _ h9 => by cases h9) (by decide) (by decide) (hts (.classLink RL 13 "java/lang/IndexOutOfBoundsException") (List.mem_of_getElem? (i := 1) rfl)) hT.2.1.1.1 (fun H locs q9 hz hk hS => ?_)
  have hP : va_P D vwCl (wO ct o ov ++ wc) H := hP.kept (fun k9 x9 h9 => hk x9.1 ((hP k9 x9 h9).lt))
  refine lv_astore_n (lv' := [(3, .ref q9), (0, .ref b), (1, .int x1), (2, .ref o)]) hx hb dL_wipe_12 rfl hl (by decide) rfl (fun ls hl => ?_)
  refine lv_iconst (v := nI 1) hx hb dL_wipe_13 (by decide) ?_
  exact W.iret hx hb hr (fun t ht hW => ⟨⟨_, (), rfl, rfl, by show va_P D vwCl _ t.heap; rw [ht]; exact hP⟩, hS.F ht⟩) hS.2.2 dL_wipe_14
set_option maxHeartbeats 8000000 in
set_option maxRecDepth 100000 in
theorem cL_replicate_ok (l : Launch) (D : va_G) (ct : Nat → ClassId) (b o : Nat) (ov : Int64) (x1 x2 x3 : Int32) (v : Int32) (wc w1 : va_W) (fs : List Value) (hwb : wc[0]? = some (b, .inr (3, fs))) (had : w1.map Prod.fst = wc.map Prod.fst) (rf rl : Nat) (hrf : rf ≤ 8) (hrl : rl ≤ 250) (hM : ∀ sz, Met l yX3_replicate wsX3_replicate ({ frames := rf, cells := 0, slots := 0, locals := rl } : Room) (wrPc D ct [.ref b, .int x1, .int x2, .int x3] wc sz) (wqI D v w1 (va_A wc sz)) 0 0 (va_A wc sz)) (sz : Nat) : Met l yL_replicate wsL_replicate ({ frames := 9, cells := 0, slots := 0, locals := 300 } : Room) (wrPcT D ct [.ref b, .int x1, .int x2, .int x3, .ref o] (wO ct o ov ++ wc) sz) (wqI D (nI 0) (wO ct o v.toInt64 ++ w1) (va_A (wO ct o ov ++ wc) sz)) 0 0 (va_A (wO ct o ov ++ wc) sz) := by
  refine met_ofWH (cc := cL_replicate) (maxL := 6) (ret := (some .int)) (hh := [(0, 12, 15, 13), (0, 12, 19, 15)]) (by decide) rfl ?_
  intro p e s m args below meth c s₁ B hml hv
  obtain ⟨rfl, hsz, hP, hK, hD0, hT⟩ := hv
  have hx := B.exec
  have hb := B.bytes
  have hr := B.returns
  have hts := atoms_spec (ws := wsL_replicate) B.pre
  have hown : s.vm.findClass RL = some m.cls := findClass_of_methodNamed B.named
  have hlocks := B.notSynchronized
  subst hsz
  have hD := hD0.self (sz := s.heap.size)
  generalize hAe : va_A (wO ct o ov ++ wc) s.heap.size = A at hD ⊢
  have hA : ∀ q : Nat, s.heap.size ≤ q → A q := fun q h => by rw [← hAe]; exact Or.inr h
  have hS : va_S A s.heap s.heap [] := va_S.rf
  have hP : va_P D vwCl (wO ct o ov ++ wc) s.heap := hP
  clear hAe hD0
  have hl := lv_entry ([.ref b, .int x1, .int x2, .int x3, .ref o]) (n := 6) (Nat.le_of_ble_eq_true rfl)
  rw [lg_entry_eq]
  generalize (lg_sl ([.ref b, .int x1, .int x2, .int x3, .ref o]) ++ List.replicate (6 - (lg_sl ([.ref b, .int x1, .int x2, .int x3, .ref o])).length) Slot.unset).toArray = ls at hl ⊢
  have hl : lv_has ls 6 [(0, .ref b), (1, .int x1), (2, .int x2), (3, .int x3), (4, .ref o)] := hl
  refine lv_aload hx hb dL_replicate_0 (lv_at hl 4 rfl) ?_
  refine lv_iconst (v := nI 0) hx hb dL_replicate_2 (by decide) ?_
  refine lv_aload_n hx hb dL_replicate_3 rfl (lv_at hl 0 rfl) ?_
  refine lv_iload_n hx hb dL_replicate_4 rfl (lv_at hl 1 rfl) ?_
  refine lv_iload_n hx hb dL_replicate_5 rfl (lv_at hl 2 rfl) ?_
  refine lv_iload_n hx hb dL_replicate_6 rfl (lv_at hl 3 rfl) ?_
  refine r_wA (As := [.int x1, .int x2, .int x3]) (rest := [.int (nI 0), .ref o]) ⟨hx, hb, hml, hown, hts⟩ (hM _) (cwV 3 hts gL_replicate_X3_replicate rfl rfl rfl (by decide +kernel) ⟨by show rf + 1 ≤ 9; omega, by show 8 + (10 + 11) + rl ≤ 300; omega⟩) hK hP hD hS hA had 0 3 hwb rfl rfl hl.1 rfl (Nat.le_of_ble_eq_true rfl) dL_replicate_7 ⟨Nat.le_of_ble_eq_true rfl, Nat.le_of_ble_eq_true rfl⟩ (fun H locs hP hD hS => ?_)
  have hP : va_P D vwCl (wO ct o ov ++ w1) H := hP
  have hD : va_D A (wO ct o ov ++ w1) := hD
  refine lv_i2l (v := v.toInt64) hx hb dL_replicate_10 rfl ?_
  refine r_last0 hx hb hK hP hD hS dL_replicate_11 (fun H locs hP hD hS => ?_)
  refine lv_goto (tgt := 23) hx hb dL_replicate_12 (by decide) ?_
  refine lv_iconst (v := nI 0) hx hb dL_replicate_23 (by decide) ?_
  exact W.iret hx hb hr (fun t ht hW => ⟨⟨_, (), rfl, rfl, by show va_P D vwCl _ t.heap; rw [ht]; exact hP⟩, hS.F ht⟩) hS.2.2 dL_replicate_24
set_option maxHeartbeats 8000000 in
set_option maxRecDepth 100000 in
theorem cL_replicate_b1 (l : Launch) (D : va_G) (ct : Nat → ClassId) (b o : Nat) (ov : Int64) (x1 x2 x3 : Int32) (wc : va_W) (fs : List Value) (hwb : wc[0]? = some (b, .inr (3, fs))) (hM : vx_Met l yX3_replicate wsX3_replicate ({ frames := 7, cells := 1, slots := 6, locals := 120 } : Room) (bdPc D ct [.ref b, .int x1, .int x2, .int x3] wc) bdQ (bdX eO) 1 6 (fun _ => False)) (sz : Nat) : Met l yL_replicate wsL_replicate ({ frames := 9, cells := 1, slots := 6, locals := 300 } : Room) (wrPcT D ct [.ref b, .int x1, .int x2, .int x3, .ref o] (wO ct o ov ++ wc) sz) (wqI D (nI 1) (wO ct o ov ++ wc) (va_A (wO ct o ov ++ wc) sz)) 1 6 (va_A (wO ct o ov ++ wc) sz) := by
  refine met_ofWH (cc := cL_replicate) (maxL := 6) (ret := (some .int)) (hh := [(0, 12, 15, 13), (0, 12, 19, 15)]) (by decide) rfl ?_
  intro p e s m args below meth c s₁ B hml hv
  obtain ⟨rfl, hsz, hP, hK, hD0, hT⟩ := hv
  have hx := B.exec
  have hb := B.bytes
  have hr := B.returns
  have hts := atoms_spec (ws := wsL_replicate) B.pre
  have hown : s.vm.findClass RL = some m.cls := findClass_of_methodNamed B.named
  have hlocks := B.notSynchronized
  subst hsz
  have hD := hD0.self (sz := s.heap.size)
  generalize hAe : va_A (wO ct o ov ++ wc) s.heap.size = A at hD ⊢
  have hA : ∀ q : Nat, s.heap.size ≤ q → A q := fun q h => by rw [← hAe]; exact Or.inr h
  have hS : va_S A s.heap s.heap [] := va_S.rf
  have hP : va_P D vwCl (wO ct o ov ++ wc) s.heap := hP
  clear hAe hD0
  have hl := lv_entry ([.ref b, .int x1, .int x2, .int x3, .ref o]) (n := 6) (Nat.le_of_ble_eq_true rfl)
  rw [lg_entry_eq]
  generalize (lg_sl ([.ref b, .int x1, .int x2, .int x3, .ref o]) ++ List.replicate (6 - (lg_sl ([.ref b, .int x1, .int x2, .int x3, .ref o])).length) Slot.unset).toArray = ls at hl ⊢
  have hl : lv_has ls 6 [(0, .ref b), (1, .int x1), (2, .int x2), (3, .int x3), (4, .ref o)] := hl
  refine lv_aload hx hb dL_replicate_0 (lv_at hl 4 rfl) ?_
  refine lv_iconst (v := nI 0) hx hb dL_replicate_2 (by decide) ?_
  refine lv_aload_n hx hb dL_replicate_3 rfl (lv_at hl 0 rfl) ?_
  refine lv_iload_n hx hb dL_replicate_4 rfl (lv_at hl 1 rfl) ?_
  refine lv_iload_n hx hb dL_replicate_5 rfl (lv_at hl 2 rfl) ?_
  refine lv_iload_n hx hb dL_replicate_6 rfl (lv_at hl 3 rfl) ?_
  refine r_xC (As := [.int x1, .int x2, .int x3]) (rest := [.int (nI 0), .ref o]) ⟨hx, hb, hml, hown, hts⟩ hM (cwV 3 hts gL_replicate_X3_replicate rfl rfl rfl (by decide +kernel) ⟨Nat.le_of_ble_eq_true rfl, Nat.le_of_ble_eq_true rfl⟩) hK (fun k9 q9 h9 => hP (k9 + 1) q9 h9) hT hS 0 3 hwb rfl rfl hl.1 rfl (Nat.le_of_ble_eq_true rfl) dL_replicate_7 ⟨Nat.le_of_ble_eq_true rfl, Nat.le_of_ble_eq_true rfl⟩ hown [] (⟨0, 12, 15, 13⟩ : ExceptionTableEntry) [(⟨0, 12, 19, 15⟩ : ExceptionTableEntry)] ((vx_table (x := yL_replicate) B (hts _ List.mem_cons_self)).trans rfl) (fun _ h9 => by cases h9) (by decide) (by decide) (hts (.classLink RL 13 "java/lang/IndexOutOfBoundsException") (List.mem_of_getElem? (i := 1) rfl)) hT.2.1.1.1 (fun H locs q9 hz hk hS => ?_)
  have hP : va_P D vwCl (wO ct o ov ++ wc) H := hP.kept (fun k9 x9 h9 => hk x9.1 ((hP k9 x9 h9).lt))
  refine lv_astore (lv' := [(5, .ref q9), (0, .ref b), (1, .int x1), (2, .int x2), (3, .int x3), (4, .ref o)]) hx hb dL_replicate_15 hl (by decide) rfl (fun ls hl => ?_)
  refine lv_iconst (v := nI 1) hx hb dL_replicate_17 (by decide) ?_
  exact W.iret hx hb hr (fun t ht hW => ⟨⟨_, (), rfl, rfl, by show va_P D vwCl _ t.heap; rw [ht]; exact hP⟩, hS.F ht⟩) hS.2.2 dL_replicate_18
set_option maxHeartbeats 8000000 in
set_option maxRecDepth 100000 in
theorem cL_replicate_b2 (l : Launch) (D : va_G) (ct : Nat → ClassId) (b o : Nat) (ov : Int64) (x1 x2 x3 : Int32) (wc : va_W) (fs : List Value) (hwb : wc[0]? = some (b, .inr (3, fs))) (hM : vx_Met l yX3_replicate wsX3_replicate ({ frames := 7, cells := 1, slots := 6, locals := 120 } : Room) (bdPc D ct [.ref b, .int x1, .int x2, .int x3] wc) bdQ (bdX eA) 1 6 (fun _ => False)) (sz : Nat) : Met l yL_replicate wsL_replicate ({ frames := 9, cells := 1, slots := 6, locals := 300 } : Room) (wrPcT D ct [.ref b, .int x1, .int x2, .int x3, .ref o] (wO ct o ov ++ wc) sz) (wqI D (nI 2) (wO ct o ov ++ wc) (va_A (wO ct o ov ++ wc) sz)) 1 6 (va_A (wO ct o ov ++ wc) sz) := by
  refine met_ofWH (cc := cL_replicate) (maxL := 6) (ret := (some .int)) (hh := [(0, 12, 15, 13), (0, 12, 19, 15)]) (by decide) rfl ?_
  intro p e s m args below meth c s₁ B hml hv
  obtain ⟨rfl, hsz, hP, hK, hD0, hT⟩ := hv
  have hx := B.exec
  have hb := B.bytes
  have hr := B.returns
  have hts := atoms_spec (ws := wsL_replicate) B.pre
  have hown : s.vm.findClass RL = some m.cls := findClass_of_methodNamed B.named
  have hlocks := B.notSynchronized
  subst hsz
  have hD := hD0.self (sz := s.heap.size)
  generalize hAe : va_A (wO ct o ov ++ wc) s.heap.size = A at hD ⊢
  have hA : ∀ q : Nat, s.heap.size ≤ q → A q := fun q h => by rw [← hAe]; exact Or.inr h
  have hS : va_S A s.heap s.heap [] := va_S.rf
  have hP : va_P D vwCl (wO ct o ov ++ wc) s.heap := hP
  clear hAe hD0
  have hl := lv_entry ([.ref b, .int x1, .int x2, .int x3, .ref o]) (n := 6) (Nat.le_of_ble_eq_true rfl)
  rw [lg_entry_eq]
  generalize (lg_sl ([.ref b, .int x1, .int x2, .int x3, .ref o]) ++ List.replicate (6 - (lg_sl ([.ref b, .int x1, .int x2, .int x3, .ref o])).length) Slot.unset).toArray = ls at hl ⊢
  have hl : lv_has ls 6 [(0, .ref b), (1, .int x1), (2, .int x2), (3, .int x3), (4, .ref o)] := hl
  refine lv_aload hx hb dL_replicate_0 (lv_at hl 4 rfl) ?_
  refine lv_iconst (v := nI 0) hx hb dL_replicate_2 (by decide) ?_
  refine lv_aload_n hx hb dL_replicate_3 rfl (lv_at hl 0 rfl) ?_
  refine lv_iload_n hx hb dL_replicate_4 rfl (lv_at hl 1 rfl) ?_
  refine lv_iload_n hx hb dL_replicate_5 rfl (lv_at hl 2 rfl) ?_
  refine lv_iload_n hx hb dL_replicate_6 rfl (lv_at hl 3 rfl) ?_
  refine r_xC (As := [.int x1, .int x2, .int x3]) (rest := [.int (nI 0), .ref o]) ⟨hx, hb, hml, hown, hts⟩ hM (cwV 3 hts gL_replicate_X3_replicate rfl rfl rfl (by decide +kernel) ⟨Nat.le_of_ble_eq_true rfl, Nat.le_of_ble_eq_true rfl⟩) hK (fun k9 q9 h9 => hP (k9 + 1) q9 h9) hT hS 0 3 hwb rfl rfl hl.1 rfl (Nat.le_of_ble_eq_true rfl) dL_replicate_7 ⟨Nat.le_of_ble_eq_true rfl, Nat.le_of_ble_eq_true rfl⟩ hown [(⟨0, 12, 15, 13⟩ : ExceptionTableEntry)] (⟨0, 12, 19, 15⟩ : ExceptionTableEntry) [] ((vx_table (x := yL_replicate) B (hts _ List.mem_cons_self)).trans rfl) (List.forall_mem_cons.mpr ⟨Or.inr ⟨by decide, _, (hts (.classLink RL 13 "java/lang/IndexOutOfBoundsException") (List.mem_of_getElem? (i := 1) rfl)), hT.2.2.1.1⟩, (fun _ h9 => by cases h9)⟩) (by decide) (by decide) (hts (.classLink RL 15 "java/lang/IllegalArgumentException") (List.mem_of_getElem? (i := 2) rfl)) hT.2.1.1.2.1 (fun H locs q9 hz hk hS => ?_)
  have hP : va_P D vwCl (wO ct o ov ++ wc) H := hP.kept (fun k9 x9 h9 => hk x9.1 ((hP k9 x9 h9).lt))
  refine lv_astore (lv' := [(5, .ref q9), (0, .ref b), (1, .int x1), (2, .int x2), (3, .int x3), (4, .ref o)]) hx hb dL_replicate_19 hl (by decide) rfl (fun ls hl => ?_)
  refine lv_iconst (v := nI 2) hx hb dL_replicate_21 (by decide) ?_
  exact W.iret hx hb hr (fun t ht hW => ⟨⟨_, (), rfl, rfl, by show va_P D vwCl _ t.heap; rw [ht]; exact hP⟩, hS.F ht⟩) hS.2.2 dL_replicate_22
set_option maxHeartbeats 8000000 in
set_option maxRecDepth 100000 in
theorem cL_pending_ok (l : Launch) (D : va_G) (ct : Nat → ClassId) (b o : Nat) (ov : Int64) (x1 x2 : Int32) (v : Int32) (wc : va_W) (fs : List Value) (hwb : wc[0]? = some (b, .inr (3, fs))) (rf rl : Nat) (hrf : rf ≤ 8) (hrl : rl ≤ 250) (hM : Met l yX3_pending wsX3_pending ({ frames := rf, cells := 0, slots := 0, locals := rl } : Room) (roPc D ct [.ref b, .int x1, .int x2] wc) (rqI v) 0 0 (fun _ => False)) (sz : Nat) : Met l yL_pending wsL_pending ({ frames := 9, cells := 0, slots := 0, locals := 300 } : Room) (wrPcT D ct [.ref b, .int x1, .int x2, .ref o] (wO ct o ov ++ wc) sz) (wqI D (nI 0) (wO ct o v.toInt64 ++ wc) (va_A (wO ct o ov ++ wc) sz)) 0 0 (va_A (wO ct o ov ++ wc) sz) := by
  refine met_ofWH (cc := cL_pending) (maxL := 5) (ret := (some .int)) (hh := [(0, 10, 13, 13), (0, 10, 17, 15)]) (by decide) rfl ?_
  intro p e s m args below meth c s₁ B hml hv
  obtain ⟨rfl, hsz, hP, hK, hD0, hT⟩ := hv
  have hx := B.exec
  have hb := B.bytes
  have hr := B.returns
  have hts := atoms_spec (ws := wsL_pending) B.pre
  have hown : s.vm.findClass RL = some m.cls := findClass_of_methodNamed B.named
  have hlocks := B.notSynchronized
  subst hsz
  have hD := hD0.self (sz := s.heap.size)
  generalize hAe : va_A (wO ct o ov ++ wc) s.heap.size = A at hD ⊢
  have hA : ∀ q : Nat, s.heap.size ≤ q → A q := fun q h => by rw [← hAe]; exact Or.inr h
  have hS : va_S A s.heap s.heap [] := va_S.rf
  have hP : va_P D vwCl (wO ct o ov ++ wc) s.heap := hP
  clear hAe hD0
  have hl := lv_entry ([.ref b, .int x1, .int x2, .ref o]) (n := 5) (Nat.le_of_ble_eq_true rfl)
  rw [lg_entry_eq]
  generalize (lg_sl ([.ref b, .int x1, .int x2, .ref o]) ++ List.replicate (5 - (lg_sl ([.ref b, .int x1, .int x2, .ref o])).length) Slot.unset).toArray = ls at hl ⊢
  have hl : lv_has ls 5 [(0, .ref b), (1, .int x1), (2, .int x2), (3, .ref o)] := hl
  refine lv_aload_n hx hb dL_pending_0 rfl (lv_at hl 3 rfl) ?_
  refine lv_iconst (v := nI 0) hx hb dL_pending_1 (by decide) ?_
  refine lv_aload_n hx hb dL_pending_2 rfl (lv_at hl 0 rfl) ?_
  refine lv_iload_n hx hb dL_pending_3 rfl (lv_at hl 1 rfl) ?_
  refine lv_iload_n hx hb dL_pending_4 rfl (lv_at hl 2 rfl) ?_
  refine r_wB (As := [.int x1, .int x2]) (rest := [.int (nI 0), .ref o]) ⟨hx, hb, hml, hown, hts⟩ hM (cwV 2 hts gL_pending_X3_pending rfl rfl rfl (by decide +kernel) ⟨by show rf + 1 ≤ 9; omega, by show 8 + (4 + 11) + rl ≤ 300; omega⟩) hK hP 0 3 hwb rfl rfl hl.1 rfl (Nat.le_of_ble_eq_true rfl) dL_pending_5 ⟨Nat.le_of_ble_eq_true rfl, Nat.le_of_ble_eq_true rfl⟩ ?_
  refine lv_i2l (v := v.toInt64) hx hb dL_pending_8 rfl ?_
  refine r_last0 hx hb hK hP hD hS dL_pending_9 (fun H locs hP hD hS => ?_)
  refine lv_goto (tgt := 21) hx hb dL_pending_10 (by decide) ?_
  refine lv_iconst (v := nI 0) hx hb dL_pending_21 (by decide) ?_
  exact W.iret hx hb hr (fun t ht hW => ⟨⟨_, (), rfl, rfl, by show va_P D vwCl _ t.heap; rw [ht]; exact hP⟩, hS.F ht⟩) hS.2.2 dL_pending_22
set_option maxHeartbeats 8000000 in
set_option maxRecDepth 100000 in
theorem cL_pending_b1 (l : Launch) (D : va_G) (ct : Nat → ClassId) (b o : Nat) (ov : Int64) (x1 x2 : Int32) (wc : va_W) (fs : List Value) (hwb : wc[0]? = some (b, .inr (3, fs))) (hM : vx_Met l yX3_pending wsX3_pending ({ frames := 7, cells := 1, slots := 6, locals := 120 } : Room) (bdPc D ct [.ref b, .int x1, .int x2] wc) bdQ (bdX eO) 1 6 (fun _ => False)) (sz : Nat) : Met l yL_pending wsL_pending ({ frames := 9, cells := 1, slots := 6, locals := 300 } : Room) (wrPcT D ct [.ref b, .int x1, .int x2, .ref o] (wO ct o ov ++ wc) sz) (wqI D (nI 1) (wO ct o ov ++ wc) (va_A (wO ct o ov ++ wc) sz)) 1 6 (va_A (wO ct o ov ++ wc) sz) := by
  refine met_ofWH (cc := cL_pending) (maxL := 5) (ret := (some .int)) (hh := [(0, 10, 13, 13), (0, 10, 17, 15)]) (by decide) rfl ?_
  intro p e s m args below meth c s₁ B hml hv
  obtain ⟨rfl, hsz, hP, hK, hD0, hT⟩ := hv
  have hx := B.exec
  have hb := B.bytes
  have hr := B.returns
  have hts := atoms_spec (ws := wsL_pending) B.pre
  have hown : s.vm.findClass RL = some m.cls := findClass_of_methodNamed B.named
  have hlocks := B.notSynchronized
  subst hsz
  have hD := hD0.self (sz := s.heap.size)
  generalize hAe : va_A (wO ct o ov ++ wc) s.heap.size = A at hD ⊢
  have hA : ∀ q : Nat, s.heap.size ≤ q → A q := fun q h => by rw [← hAe]; exact Or.inr h
  have hS : va_S A s.heap s.heap [] := va_S.rf
  have hP : va_P D vwCl (wO ct o ov ++ wc) s.heap := hP
  clear hAe hD0
  have hl := lv_entry ([.ref b, .int x1, .int x2, .ref o]) (n := 5) (Nat.le_of_ble_eq_true rfl)
  rw [lg_entry_eq]
  generalize (lg_sl ([.ref b, .int x1, .int x2, .ref o]) ++ List.replicate (5 - (lg_sl ([.ref b, .int x1, .int x2, .ref o])).length) Slot.unset).toArray = ls at hl ⊢
  have hl : lv_has ls 5 [(0, .ref b), (1, .int x1), (2, .int x2), (3, .ref o)] := hl
  refine lv_aload_n hx hb dL_pending_0 rfl (lv_at hl 3 rfl) ?_
  refine lv_iconst (v := nI 0) hx hb dL_pending_1 (by decide) ?_
  refine lv_aload_n hx hb dL_pending_2 rfl (lv_at hl 0 rfl) ?_
  refine lv_iload_n hx hb dL_pending_3 rfl (lv_at hl 1 rfl) ?_
  refine lv_iload_n hx hb dL_pending_4 rfl (lv_at hl 2 rfl) ?_
  refine r_xC (As := [.int x1, .int x2]) (rest := [.int (nI 0), .ref o]) ⟨hx, hb, hml, hown, hts⟩ hM (cwV 2 hts gL_pending_X3_pending rfl rfl rfl (by decide +kernel) ⟨Nat.le_of_ble_eq_true rfl, Nat.le_of_ble_eq_true rfl⟩) hK (fun k9 q9 h9 => hP (k9 + 1) q9 h9) hT hS 0 3 hwb rfl rfl hl.1 rfl (Nat.le_of_ble_eq_true rfl) dL_pending_5 ⟨Nat.le_of_ble_eq_true rfl, Nat.le_of_ble_eq_true rfl⟩ hown [] (⟨0, 10, 13, 13⟩ : ExceptionTableEntry) [(⟨0, 10, 17, 15⟩ : ExceptionTableEntry)] ((vx_table (x := yL_pending) B (hts _ List.mem_cons_self)).trans rfl) (fun _ h9 => by cases h9) (by decide) (by decide) (hts (.classLink RL 13 "java/lang/IndexOutOfBoundsException") (List.mem_of_getElem? (i := 1) rfl)) hT.2.1.1.1 (fun H locs q9 hz hk hS => ?_)
  have hP : va_P D vwCl (wO ct o ov ++ wc) H := hP.kept (fun k9 x9 h9 => hk x9.1 ((hP k9 x9 h9).lt))
  refine lv_astore (lv' := [(4, .ref q9), (0, .ref b), (1, .int x1), (2, .int x2), (3, .ref o)]) hx hb dL_pending_13 hl (by decide) rfl (fun ls hl => ?_)
  refine lv_iconst (v := nI 1) hx hb dL_pending_15 (by decide) ?_
  exact W.iret hx hb hr (fun t ht hW => ⟨⟨_, (), rfl, rfl, by show va_P D vwCl _ t.heap; rw [ht]; exact hP⟩, hS.F ht⟩) hS.2.2 dL_pending_16
set_option maxHeartbeats 8000000 in
set_option maxRecDepth 100000 in
theorem cL_pending_b2 (l : Launch) (D : va_G) (ct : Nat → ClassId) (b o : Nat) (ov : Int64) (x1 x2 : Int32) (wc : va_W) (fs : List Value) (hwb : wc[0]? = some (b, .inr (3, fs))) (hM : vx_Met l yX3_pending wsX3_pending ({ frames := 7, cells := 1, slots := 6, locals := 120 } : Room) (bdPc D ct [.ref b, .int x1, .int x2] wc) bdQ (bdX eA) 1 6 (fun _ => False)) (sz : Nat) : Met l yL_pending wsL_pending ({ frames := 9, cells := 1, slots := 6, locals := 300 } : Room) (wrPcT D ct [.ref b, .int x1, .int x2, .ref o] (wO ct o ov ++ wc) sz) (wqI D (nI 2) (wO ct o ov ++ wc) (va_A (wO ct o ov ++ wc) sz)) 1 6 (va_A (wO ct o ov ++ wc) sz) := by
  refine met_ofWH (cc := cL_pending) (maxL := 5) (ret := (some .int)) (hh := [(0, 10, 13, 13), (0, 10, 17, 15)]) (by decide) rfl ?_
  intro p e s m args below meth c s₁ B hml hv
  obtain ⟨rfl, hsz, hP, hK, hD0, hT⟩ := hv
  have hx := B.exec
  have hb := B.bytes
  have hr := B.returns
  have hts := atoms_spec (ws := wsL_pending) B.pre
  have hown : s.vm.findClass RL = some m.cls := findClass_of_methodNamed B.named
  have hlocks := B.notSynchronized
  subst hsz
  have hD := hD0.self (sz := s.heap.size)
  generalize hAe : va_A (wO ct o ov ++ wc) s.heap.size = A at hD ⊢
  have hA : ∀ q : Nat, s.heap.size ≤ q → A q := fun q h => by rw [← hAe]; exact Or.inr h
  have hS : va_S A s.heap s.heap [] := va_S.rf
  have hP : va_P D vwCl (wO ct o ov ++ wc) s.heap := hP
  clear hAe hD0
  have hl := lv_entry ([.ref b, .int x1, .int x2, .ref o]) (n := 5) (Nat.le_of_ble_eq_true rfl)
  rw [lg_entry_eq]
  generalize (lg_sl ([.ref b, .int x1, .int x2, .ref o]) ++ List.replicate (5 - (lg_sl ([.ref b, .int x1, .int x2, .ref o])).length) Slot.unset).toArray = ls at hl ⊢
  have hl : lv_has ls 5 [(0, .ref b), (1, .int x1), (2, .int x2), (3, .ref o)] := hl
  refine lv_aload_n hx hb dL_pending_0 rfl (lv_at hl 3 rfl) ?_
  refine lv_iconst (v := nI 0) hx hb dL_pending_1 (by decide) ?_
  refine lv_aload_n hx hb dL_pending_2 rfl (lv_at hl 0 rfl) ?_
  refine lv_iload_n hx hb dL_pending_3 rfl (lv_at hl 1 rfl) ?_
  refine lv_iload_n hx hb dL_pending_4 rfl (lv_at hl 2 rfl) ?_
  refine r_xC (As := [.int x1, .int x2]) (rest := [.int (nI 0), .ref o]) ⟨hx, hb, hml, hown, hts⟩ hM (cwV 2 hts gL_pending_X3_pending rfl rfl rfl (by decide +kernel) ⟨Nat.le_of_ble_eq_true rfl, Nat.le_of_ble_eq_true rfl⟩) hK (fun k9 q9 h9 => hP (k9 + 1) q9 h9) hT hS 0 3 hwb rfl rfl hl.1 rfl (Nat.le_of_ble_eq_true rfl) dL_pending_5 ⟨Nat.le_of_ble_eq_true rfl, Nat.le_of_ble_eq_true rfl⟩ hown [(⟨0, 10, 13, 13⟩ : ExceptionTableEntry)] (⟨0, 10, 17, 15⟩ : ExceptionTableEntry) [] ((vx_table (x := yL_pending) B (hts _ List.mem_cons_self)).trans rfl) (List.forall_mem_cons.mpr ⟨Or.inr ⟨by decide, _, (hts (.classLink RL 13 "java/lang/IndexOutOfBoundsException") (List.mem_of_getElem? (i := 1) rfl)), hT.2.2.1.1⟩, (fun _ h9 => by cases h9)⟩) (by decide) (by decide) (hts (.classLink RL 15 "java/lang/IllegalArgumentException") (List.mem_of_getElem? (i := 2) rfl)) hT.2.1.1.2.1 (fun H locs q9 hz hk hS => ?_)
  have hP : va_P D vwCl (wO ct o ov ++ wc) H := hP.kept (fun k9 x9 h9 => hk x9.1 ((hP k9 x9 h9).lt))
  refine lv_astore (lv' := [(4, .ref q9), (0, .ref b), (1, .int x1), (2, .int x2), (3, .ref o)]) hx hb dL_pending_17 hl (by decide) rfl (fun ls hl => ?_)
  refine lv_iconst (v := nI 2) hx hb dL_pending_19 (by decide) ?_
  exact W.iret hx hb hr (fun t ht hW => ⟨⟨_, (), rfl, rfl, by show va_P D vwCl _ t.heap; rw [ht]; exact hP⟩, hS.F ht⟩) hS.2.2 dL_pending_20
set_option maxHeartbeats 8000000 in
set_option maxRecDepth 100000 in
theorem cL_checkpoint_ok (l : Launch) (D : va_G) (ct : Nat → ClassId) (b o : Nat) (ov : Int64) (x1 x2 : Int32) (v : Int32) (wc : va_W) (fs : List Value) (hwb : wc[0]? = some (b, .inr (3, fs))) (rf rl : Nat) (hrf : rf ≤ 8) (hrl : rl ≤ 250) (hM : Met l yX3_checkpoint wsX3_checkpoint ({ frames := rf, cells := 0, slots := 0, locals := rl } : Room) (roPc D ct [.ref b, .int x1, .int x2] wc) (rqI v) 0 0 (fun _ => False)) (sz : Nat) : Met l yL_checkpoint wsL_checkpoint ({ frames := 9, cells := 0, slots := 0, locals := 300 } : Room) (wrPcT D ct [.ref b, .int x1, .int x2, .ref o] (wO ct o ov ++ wc) sz) (wqI D (nI 0) (wO ct o v.toInt64 ++ wc) (va_A (wO ct o ov ++ wc) sz)) 0 0 (va_A (wO ct o ov ++ wc) sz) := by
  refine met_ofWH (cc := cL_checkpoint) (maxL := 5) (ret := (some .int)) (hh := [(0, 10, 13, 13), (0, 10, 17, 15)]) (by decide) rfl ?_
  intro p e s m args below meth c s₁ B hml hv
  obtain ⟨rfl, hsz, hP, hK, hD0, hT⟩ := hv
  have hx := B.exec
  have hb := B.bytes
  have hr := B.returns
  have hts := atoms_spec (ws := wsL_checkpoint) B.pre
  have hown : s.vm.findClass RL = some m.cls := findClass_of_methodNamed B.named
  have hlocks := B.notSynchronized
  subst hsz
  have hD := hD0.self (sz := s.heap.size)
  generalize hAe : va_A (wO ct o ov ++ wc) s.heap.size = A at hD ⊢
  have hA : ∀ q : Nat, s.heap.size ≤ q → A q := fun q h => by rw [← hAe]; exact Or.inr h
  have hS : va_S A s.heap s.heap [] := va_S.rf
  have hP : va_P D vwCl (wO ct o ov ++ wc) s.heap := hP
  clear hAe hD0
  have hl := lv_entry ([.ref b, .int x1, .int x2, .ref o]) (n := 5) (Nat.le_of_ble_eq_true rfl)
  rw [lg_entry_eq]
  generalize (lg_sl ([.ref b, .int x1, .int x2, .ref o]) ++ List.replicate (5 - (lg_sl ([.ref b, .int x1, .int x2, .ref o])).length) Slot.unset).toArray = ls at hl ⊢
  have hl : lv_has ls 5 [(0, .ref b), (1, .int x1), (2, .int x2), (3, .ref o)] := hl
  refine lv_aload_n hx hb dL_checkpoint_0 rfl (lv_at hl 3 rfl) ?_
  refine lv_iconst (v := nI 0) hx hb dL_checkpoint_1 (by decide) ?_
  refine lv_aload_n hx hb dL_checkpoint_2 rfl (lv_at hl 0 rfl) ?_
  refine lv_iload_n hx hb dL_checkpoint_3 rfl (lv_at hl 1 rfl) ?_
  refine lv_iload_n hx hb dL_checkpoint_4 rfl (lv_at hl 2 rfl) ?_
  refine r_wB (As := [.int x1, .int x2]) (rest := [.int (nI 0), .ref o]) ⟨hx, hb, hml, hown, hts⟩ hM (cwV 2 hts gL_checkpoint_X3_checkpoint rfl rfl rfl (by decide +kernel) ⟨by show rf + 1 ≤ 9; omega, by show 8 + (3 + 11) + rl ≤ 300; omega⟩) hK hP 0 3 hwb rfl rfl hl.1 rfl (Nat.le_of_ble_eq_true rfl) dL_checkpoint_5 ⟨Nat.le_of_ble_eq_true rfl, Nat.le_of_ble_eq_true rfl⟩ ?_
  refine lv_i2l (v := v.toInt64) hx hb dL_checkpoint_8 rfl ?_
  refine r_last0 hx hb hK hP hD hS dL_checkpoint_9 (fun H locs hP hD hS => ?_)
  refine lv_goto (tgt := 21) hx hb dL_checkpoint_10 (by decide) ?_
  refine lv_iconst (v := nI 0) hx hb dL_checkpoint_21 (by decide) ?_
  exact W.iret hx hb hr (fun t ht hW => ⟨⟨_, (), rfl, rfl, by show va_P D vwCl _ t.heap; rw [ht]; exact hP⟩, hS.F ht⟩) hS.2.2 dL_checkpoint_22
set_option maxHeartbeats 8000000 in
set_option maxRecDepth 100000 in
theorem cL_checkpoint_b1 (l : Launch) (D : va_G) (ct : Nat → ClassId) (b o : Nat) (ov : Int64) (x1 x2 : Int32) (wc : va_W) (fs : List Value) (hwb : wc[0]? = some (b, .inr (3, fs))) (hM : vx_Met l yX3_checkpoint wsX3_checkpoint ({ frames := 7, cells := 1, slots := 6, locals := 120 } : Room) (bdPc D ct [.ref b, .int x1, .int x2] wc) bdQ (bdX eO) 1 6 (fun _ => False)) (sz : Nat) : Met l yL_checkpoint wsL_checkpoint ({ frames := 9, cells := 1, slots := 6, locals := 300 } : Room) (wrPcT D ct [.ref b, .int x1, .int x2, .ref o] (wO ct o ov ++ wc) sz) (wqI D (nI 1) (wO ct o ov ++ wc) (va_A (wO ct o ov ++ wc) sz)) 1 6 (va_A (wO ct o ov ++ wc) sz) := by
  refine met_ofWH (cc := cL_checkpoint) (maxL := 5) (ret := (some .int)) (hh := [(0, 10, 13, 13), (0, 10, 17, 15)]) (by decide) rfl ?_
  intro p e s m args below meth c s₁ B hml hv
  obtain ⟨rfl, hsz, hP, hK, hD0, hT⟩ := hv
  have hx := B.exec
  have hb := B.bytes
  have hr := B.returns
  have hts := atoms_spec (ws := wsL_checkpoint) B.pre
  have hown : s.vm.findClass RL = some m.cls := findClass_of_methodNamed B.named
  have hlocks := B.notSynchronized
  subst hsz
  have hD := hD0.self (sz := s.heap.size)
  generalize hAe : va_A (wO ct o ov ++ wc) s.heap.size = A at hD ⊢
  have hA : ∀ q : Nat, s.heap.size ≤ q → A q := fun q h => by rw [← hAe]; exact Or.inr h
  have hS : va_S A s.heap s.heap [] := va_S.rf
  have hP : va_P D vwCl (wO ct o ov ++ wc) s.heap := hP
  clear hAe hD0
  have hl := lv_entry ([.ref b, .int x1, .int x2, .ref o]) (n := 5) (Nat.le_of_ble_eq_true rfl)
  rw [lg_entry_eq]
  generalize (lg_sl ([.ref b, .int x1, .int x2, .ref o]) ++ List.replicate (5 - (lg_sl ([.ref b, .int x1, .int x2, .ref o])).length) Slot.unset).toArray = ls at hl ⊢
  have hl : lv_has ls 5 [(0, .ref b), (1, .int x1), (2, .int x2), (3, .ref o)] := hl
  refine lv_aload_n hx hb dL_checkpoint_0 rfl (lv_at hl 3 rfl) ?_
  refine lv_iconst (v := nI 0) hx hb dL_checkpoint_1 (by decide) ?_
  refine lv_aload_n hx hb dL_checkpoint_2 rfl (lv_at hl 0 rfl) ?_
  refine lv_iload_n hx hb dL_checkpoint_3 rfl (lv_at hl 1 rfl) ?_
  refine lv_iload_n hx hb dL_checkpoint_4 rfl (lv_at hl 2 rfl) ?_
  refine r_xC (As := [.int x1, .int x2]) (rest := [.int (nI 0), .ref o]) ⟨hx, hb, hml, hown, hts⟩ hM (cwV 2 hts gL_checkpoint_X3_checkpoint rfl rfl rfl (by decide +kernel) ⟨Nat.le_of_ble_eq_true rfl, Nat.le_of_ble_eq_true rfl⟩) hK (fun k9 q9 h9 => hP (k9 + 1) q9 h9) hT hS 0 3 hwb rfl rfl hl.1 rfl (Nat.le_of_ble_eq_true rfl) dL_checkpoint_5 ⟨Nat.le_of_ble_eq_true rfl, Nat.le_of_ble_eq_true rfl⟩ hown [] (⟨0, 10, 13, 13⟩ : ExceptionTableEntry) [(⟨0, 10, 17, 15⟩ : ExceptionTableEntry)] ((vx_table (x := yL_checkpoint) B (hts _ List.mem_cons_self)).trans rfl) (fun _ h9 => by cases h9) (by decide) (by decide) (hts (.classLink RL 13 "java/lang/IndexOutOfBoundsException") (List.mem_of_getElem? (i := 1) rfl)) hT.2.1.1.1 (fun H locs q9 hz hk hS => ?_)
  have hP : va_P D vwCl (wO ct o ov ++ wc) H := hP.kept (fun k9 x9 h9 => hk x9.1 ((hP k9 x9 h9).lt))
  refine lv_astore (lv' := [(4, .ref q9), (0, .ref b), (1, .int x1), (2, .int x2), (3, .ref o)]) hx hb dL_checkpoint_13 hl (by decide) rfl (fun ls hl => ?_)
  refine lv_iconst (v := nI 1) hx hb dL_checkpoint_15 (by decide) ?_
  exact W.iret hx hb hr (fun t ht hW => ⟨⟨_, (), rfl, rfl, by show va_P D vwCl _ t.heap; rw [ht]; exact hP⟩, hS.F ht⟩) hS.2.2 dL_checkpoint_16
set_option maxHeartbeats 8000000 in
set_option maxRecDepth 100000 in
theorem cL_checkpoint_b2 (l : Launch) (D : va_G) (ct : Nat → ClassId) (b o : Nat) (ov : Int64) (x1 x2 : Int32) (wc : va_W) (fs : List Value) (hwb : wc[0]? = some (b, .inr (3, fs))) (hM : vx_Met l yX3_checkpoint wsX3_checkpoint ({ frames := 7, cells := 1, slots := 6, locals := 120 } : Room) (bdPc D ct [.ref b, .int x1, .int x2] wc) bdQ (bdX eA) 1 6 (fun _ => False)) (sz : Nat) : Met l yL_checkpoint wsL_checkpoint ({ frames := 9, cells := 1, slots := 6, locals := 300 } : Room) (wrPcT D ct [.ref b, .int x1, .int x2, .ref o] (wO ct o ov ++ wc) sz) (wqI D (nI 2) (wO ct o ov ++ wc) (va_A (wO ct o ov ++ wc) sz)) 1 6 (va_A (wO ct o ov ++ wc) sz) := by
  refine met_ofWH (cc := cL_checkpoint) (maxL := 5) (ret := (some .int)) (hh := [(0, 10, 13, 13), (0, 10, 17, 15)]) (by decide) rfl ?_
  intro p e s m args below meth c s₁ B hml hv
  obtain ⟨rfl, hsz, hP, hK, hD0, hT⟩ := hv
  have hx := B.exec
  have hb := B.bytes
  have hr := B.returns
  have hts := atoms_spec (ws := wsL_checkpoint) B.pre
  have hown : s.vm.findClass RL = some m.cls := findClass_of_methodNamed B.named
  have hlocks := B.notSynchronized
  subst hsz
  have hD := hD0.self (sz := s.heap.size)
  generalize hAe : va_A (wO ct o ov ++ wc) s.heap.size = A at hD ⊢
  have hA : ∀ q : Nat, s.heap.size ≤ q → A q := fun q h => by rw [← hAe]; exact Or.inr h
  have hS : va_S A s.heap s.heap [] := va_S.rf
  have hP : va_P D vwCl (wO ct o ov ++ wc) s.heap := hP
  clear hAe hD0
  have hl := lv_entry ([.ref b, .int x1, .int x2, .ref o]) (n := 5) (Nat.le_of_ble_eq_true rfl)
  rw [lg_entry_eq]
  generalize (lg_sl ([.ref b, .int x1, .int x2, .ref o]) ++ List.replicate (5 - (lg_sl ([.ref b, .int x1, .int x2, .ref o])).length) Slot.unset).toArray = ls at hl ⊢
  have hl : lv_has ls 5 [(0, .ref b), (1, .int x1), (2, .int x2), (3, .ref o)] := hl
  refine lv_aload_n hx hb dL_checkpoint_0 rfl (lv_at hl 3 rfl) ?_
  refine lv_iconst (v := nI 0) hx hb dL_checkpoint_1 (by decide) ?_
  refine lv_aload_n hx hb dL_checkpoint_2 rfl (lv_at hl 0 rfl) ?_
  refine lv_iload_n hx hb dL_checkpoint_3 rfl (lv_at hl 1 rfl) ?_
  refine lv_iload_n hx hb dL_checkpoint_4 rfl (lv_at hl 2 rfl) ?_
  refine r_xC (As := [.int x1, .int x2]) (rest := [.int (nI 0), .ref o]) ⟨hx, hb, hml, hown, hts⟩ hM (cwV 2 hts gL_checkpoint_X3_checkpoint rfl rfl rfl (by decide +kernel) ⟨Nat.le_of_ble_eq_true rfl, Nat.le_of_ble_eq_true rfl⟩) hK (fun k9 q9 h9 => hP (k9 + 1) q9 h9) hT hS 0 3 hwb rfl rfl hl.1 rfl (Nat.le_of_ble_eq_true rfl) dL_checkpoint_5 ⟨Nat.le_of_ble_eq_true rfl, Nat.le_of_ble_eq_true rfl⟩ hown [(⟨0, 10, 13, 13⟩ : ExceptionTableEntry)] (⟨0, 10, 17, 15⟩ : ExceptionTableEntry) [] ((vx_table (x := yL_checkpoint) B (hts _ List.mem_cons_self)).trans rfl) (List.forall_mem_cons.mpr ⟨Or.inr ⟨by decide, _, (hts (.classLink RL 13 "java/lang/IndexOutOfBoundsException") (List.mem_of_getElem? (i := 1) rfl)), hT.2.2.1.1⟩, (fun _ h9 => by cases h9)⟩) (by decide) (by decide) (hts (.classLink RL 15 "java/lang/IllegalArgumentException") (List.mem_of_getElem? (i := 2) rfl)) hT.2.1.1.2.1 (fun H locs q9 hz hk hS => ?_)
  have hP : va_P D vwCl (wO ct o ov ++ wc) H := hP.kept (fun k9 x9 h9 => hk x9.1 ((hP k9 x9 h9).lt))
  refine lv_astore (lv' := [(4, .ref q9), (0, .ref b), (1, .int x1), (2, .int x2), (3, .ref o)]) hx hb dL_checkpoint_17 hl (by decide) rfl (fun ls hl => ?_)
  refine lv_iconst (v := nI 2) hx hb dL_checkpoint_19 (by decide) ?_
  exact W.iret hx hb hr (fun t ht hW => ⟨⟨_, (), rfl, rfl, by show va_P D vwCl _ t.heap; rw [ht]; exact hP⟩, hS.F ht⟩) hS.2.2 dL_checkpoint_20
set_option maxHeartbeats 8000000 in
set_option maxRecDepth 100000 in
theorem cL_documentOf_ok (l : Launch) (D : va_G) (ct : Nat → ClassId) (b o : Nat) (ov : Int64) (x1 : Int32) (v : Int32) (wc : va_W) (fs : List Value) (hwb : wc[0]? = some (b, .inr (3, fs))) (rf rl : Nat) (hrf : rf ≤ 8) (hrl : rl ≤ 250) (hM : Met l yX3_documentOf wsX3_documentOf ({ frames := rf, cells := 0, slots := 0, locals := rl } : Room) (roPc D ct [.ref b, .int x1] wc) (rqI v) 0 0 (fun _ => False)) (sz : Nat) : Met l yL_documentOf wsL_documentOf ({ frames := 9, cells := 0, slots := 0, locals := 300 } : Room) (wrPcT D ct [.ref b, .int x1, .ref o] (wO ct o ov ++ wc) sz) (wqI D (nI 0) (wO ct o v.toInt64 ++ wc) (va_A (wO ct o ov ++ wc) sz)) 0 0 (va_A (wO ct o ov ++ wc) sz) := by
  refine met_ofWH (cc := cL_documentOf) (maxL := 4) (ret := (some .int)) (hh := [(0, 9, 12, 13)]) (by decide) rfl ?_
  intro p e s m args below meth c s₁ B hml hv
  obtain ⟨rfl, hsz, hP, hK, hD0, hT⟩ := hv
  have hx := B.exec
  have hb := B.bytes
  have hr := B.returns
  have hts := atoms_spec (ws := wsL_documentOf) B.pre
  have hown : s.vm.findClass RL = some m.cls := findClass_of_methodNamed B.named
  have hlocks := B.notSynchronized
  subst hsz
  have hD := hD0.self (sz := s.heap.size)
  generalize hAe : va_A (wO ct o ov ++ wc) s.heap.size = A at hD ⊢
  have hA : ∀ q : Nat, s.heap.size ≤ q → A q := fun q h => by rw [← hAe]; exact Or.inr h
  have hS : va_S A s.heap s.heap [] := va_S.rf
  have hP : va_P D vwCl (wO ct o ov ++ wc) s.heap := hP
  clear hAe hD0
  have hl := lv_entry ([.ref b, .int x1, .ref o]) (n := 4) (Nat.le_of_ble_eq_true rfl)
  rw [lg_entry_eq]
  generalize (lg_sl ([.ref b, .int x1, .ref o]) ++ List.replicate (4 - (lg_sl ([.ref b, .int x1, .ref o])).length) Slot.unset).toArray = ls at hl ⊢
  have hl : lv_has ls 4 [(0, .ref b), (1, .int x1), (2, .ref o)] := hl
  refine lv_aload_n hx hb dL_documentOf_0 rfl (lv_at hl 2 rfl) ?_
  refine lv_iconst (v := nI 0) hx hb dL_documentOf_1 (by decide) ?_
  refine lv_aload_n hx hb dL_documentOf_2 rfl (lv_at hl 0 rfl) ?_
  refine lv_iload_n hx hb dL_documentOf_3 rfl (lv_at hl 1 rfl) ?_
  refine r_wB (As := [.int x1]) (rest := [.int (nI 0), .ref o]) ⟨hx, hb, hml, hown, hts⟩ hM (cwV 1 hts gL_documentOf_X3_documentOf rfl rfl rfl (by decide +kernel) ⟨by show rf + 1 ≤ 9; omega, by show 8 + (2 + 11) + rl ≤ 300; omega⟩) hK hP 0 3 hwb rfl rfl hl.1 rfl (Nat.le_of_ble_eq_true rfl) dL_documentOf_4 ⟨Nat.le_of_ble_eq_true rfl, Nat.le_of_ble_eq_true rfl⟩ ?_
  refine lv_i2l (v := v.toInt64) hx hb dL_documentOf_7 rfl ?_
  refine r_last0 hx hb hK hP hD hS dL_documentOf_8 (fun H locs hP hD hS => ?_)
  refine lv_goto (tgt := 15) hx hb dL_documentOf_9 (by decide) ?_
  refine lv_iconst (v := nI 0) hx hb dL_documentOf_15 (by decide) ?_
  exact W.iret hx hb hr (fun t ht hW => ⟨⟨_, (), rfl, rfl, by show va_P D vwCl _ t.heap; rw [ht]; exact hP⟩, hS.F ht⟩) hS.2.2 dL_documentOf_16
set_option maxHeartbeats 8000000 in
set_option maxRecDepth 100000 in
theorem cL_documentOf_b1 (l : Launch) (D : va_G) (ct : Nat → ClassId) (b o : Nat) (ov : Int64) (x1 : Int32) (wc : va_W) (fs : List Value) (hwb : wc[0]? = some (b, .inr (3, fs))) (hM : vx_Met l yX3_documentOf wsX3_documentOf ({ frames := 7, cells := 1, slots := 6, locals := 120 } : Room) (bdPc D ct [.ref b, .int x1] wc) bdQ (bdX eO) 1 6 (fun _ => False)) (sz : Nat) : Met l yL_documentOf wsL_documentOf ({ frames := 9, cells := 1, slots := 6, locals := 300 } : Room) (wrPcT D ct [.ref b, .int x1, .ref o] (wO ct o ov ++ wc) sz) (wqI D (nI 1) (wO ct o ov ++ wc) (va_A (wO ct o ov ++ wc) sz)) 1 6 (va_A (wO ct o ov ++ wc) sz) := by
  refine met_ofWH (cc := cL_documentOf) (maxL := 4) (ret := (some .int)) (hh := [(0, 9, 12, 13)]) (by decide) rfl ?_
  intro p e s m args below meth c s₁ B hml hv
  obtain ⟨rfl, hsz, hP, hK, hD0, hT⟩ := hv
  have hx := B.exec
  have hb := B.bytes
  have hr := B.returns
  have hts := atoms_spec (ws := wsL_documentOf) B.pre
  have hown : s.vm.findClass RL = some m.cls := findClass_of_methodNamed B.named
  have hlocks := B.notSynchronized
  subst hsz
  have hD := hD0.self (sz := s.heap.size)
  generalize hAe : va_A (wO ct o ov ++ wc) s.heap.size = A at hD ⊢
  have hA : ∀ q : Nat, s.heap.size ≤ q → A q := fun q h => by rw [← hAe]; exact Or.inr h
  have hS : va_S A s.heap s.heap [] := va_S.rf
  have hP : va_P D vwCl (wO ct o ov ++ wc) s.heap := hP
  clear hAe hD0
  have hl := lv_entry ([.ref b, .int x1, .ref o]) (n := 4) (Nat.le_of_ble_eq_true rfl)
  rw [lg_entry_eq]
  generalize (lg_sl ([.ref b, .int x1, .ref o]) ++ List.replicate (4 - (lg_sl ([.ref b, .int x1, .ref o])).length) Slot.unset).toArray = ls at hl ⊢
  have hl : lv_has ls 4 [(0, .ref b), (1, .int x1), (2, .ref o)] := hl
  refine lv_aload_n hx hb dL_documentOf_0 rfl (lv_at hl 2 rfl) ?_
  refine lv_iconst (v := nI 0) hx hb dL_documentOf_1 (by decide) ?_
  refine lv_aload_n hx hb dL_documentOf_2 rfl (lv_at hl 0 rfl) ?_
  refine lv_iload_n hx hb dL_documentOf_3 rfl (lv_at hl 1 rfl) ?_
  refine r_xC (As := [.int x1]) (rest := [.int (nI 0), .ref o]) ⟨hx, hb, hml, hown, hts⟩ hM (cwV 1 hts gL_documentOf_X3_documentOf rfl rfl rfl (by decide +kernel) ⟨Nat.le_of_ble_eq_true rfl, Nat.le_of_ble_eq_true rfl⟩) hK (fun k9 q9 h9 => hP (k9 + 1) q9 h9) hT hS 0 3 hwb rfl rfl hl.1 rfl (Nat.le_of_ble_eq_true rfl) dL_documentOf_4 ⟨Nat.le_of_ble_eq_true rfl, Nat.le_of_ble_eq_true rfl⟩ hown [] (⟨0, 9, 12, 13⟩ : ExceptionTableEntry) [] ((vx_table (x := yL_documentOf) B (hts _ List.mem_cons_self)).trans rfl) (fun _ h9 => by cases h9) (by decide) (by decide) (hts (.classLink RL 13 "java/lang/IndexOutOfBoundsException") (List.mem_of_getElem? (i := 1) rfl)) hT.2.1.1.1 (fun H locs q9 hz hk hS => ?_)
  have hP : va_P D vwCl (wO ct o ov ++ wc) H := hP.kept (fun k9 x9 h9 => hk x9.1 ((hP k9 x9 h9).lt))
  refine lv_astore_n (lv' := [(3, .ref q9), (0, .ref b), (1, .int x1), (2, .ref o)]) hx hb dL_documentOf_12 rfl hl (by decide) rfl (fun ls hl => ?_)
  refine lv_iconst (v := nI 1) hx hb dL_documentOf_13 (by decide) ?_
  exact W.iret hx hb hr (fun t ht hW => ⟨⟨_, (), rfl, rfl, by show va_P D vwCl _ t.heap; rw [ht]; exact hP⟩, hS.F ht⟩) hS.2.2 dL_documentOf_14
set_option maxHeartbeats 8000000 in
set_option maxRecDepth 100000 in
theorem cL_parentOf_ok (l : Launch) (D : va_G) (ct : Nat → ClassId) (b o : Nat) (ov : Int64) (x1 : Int32) (v : Int32) (wc : va_W) (fs : List Value) (hwb : wc[0]? = some (b, .inr (3, fs))) (rf rl : Nat) (hrf : rf ≤ 8) (hrl : rl ≤ 250) (hM : Met l yX3_parentOf wsX3_parentOf ({ frames := rf, cells := 0, slots := 0, locals := rl } : Room) (roPc D ct [.ref b, .int x1] wc) (rqI v) 0 0 (fun _ => False)) (sz : Nat) : Met l yL_parentOf wsL_parentOf ({ frames := 9, cells := 0, slots := 0, locals := 300 } : Room) (wrPcT D ct [.ref b, .int x1, .ref o] (wO ct o ov ++ wc) sz) (wqI D (nI 0) (wO ct o v.toInt64 ++ wc) (va_A (wO ct o ov ++ wc) sz)) 0 0 (va_A (wO ct o ov ++ wc) sz) := by
  refine met_ofWH (cc := cL_parentOf) (maxL := 4) (ret := (some .int)) (hh := [(0, 9, 12, 13)]) (by decide) rfl ?_
  intro p e s m args below meth c s₁ B hml hv
  obtain ⟨rfl, hsz, hP, hK, hD0, hT⟩ := hv
  have hx := B.exec
  have hb := B.bytes
  have hr := B.returns
  have hts := atoms_spec (ws := wsL_parentOf) B.pre
  have hown : s.vm.findClass RL = some m.cls := findClass_of_methodNamed B.named
  have hlocks := B.notSynchronized
  subst hsz
  have hD := hD0.self (sz := s.heap.size)
  generalize hAe : va_A (wO ct o ov ++ wc) s.heap.size = A at hD ⊢
  have hA : ∀ q : Nat, s.heap.size ≤ q → A q := fun q h => by rw [← hAe]; exact Or.inr h
  have hS : va_S A s.heap s.heap [] := va_S.rf
  have hP : va_P D vwCl (wO ct o ov ++ wc) s.heap := hP
  clear hAe hD0
  have hl := lv_entry ([.ref b, .int x1, .ref o]) (n := 4) (Nat.le_of_ble_eq_true rfl)
  rw [lg_entry_eq]
  generalize (lg_sl ([.ref b, .int x1, .ref o]) ++ List.replicate (4 - (lg_sl ([.ref b, .int x1, .ref o])).length) Slot.unset).toArray = ls at hl ⊢
  have hl : lv_has ls 4 [(0, .ref b), (1, .int x1), (2, .ref o)] := hl
  refine lv_aload_n hx hb dL_parentOf_0 rfl (lv_at hl 2 rfl) ?_
  refine lv_iconst (v := nI 0) hx hb dL_parentOf_1 (by decide) ?_
  refine lv_aload_n hx hb dL_parentOf_2 rfl (lv_at hl 0 rfl) ?_
  refine lv_iload_n hx hb dL_parentOf_3 rfl (lv_at hl 1 rfl) ?_
  refine r_wB (As := [.int x1]) (rest := [.int (nI 0), .ref o]) ⟨hx, hb, hml, hown, hts⟩ hM (cwV 1 hts gL_parentOf_X3_parentOf rfl rfl rfl (by decide +kernel) ⟨by show rf + 1 ≤ 9; omega, by show 8 + (2 + 11) + rl ≤ 300; omega⟩) hK hP 0 3 hwb rfl rfl hl.1 rfl (Nat.le_of_ble_eq_true rfl) dL_parentOf_4 ⟨Nat.le_of_ble_eq_true rfl, Nat.le_of_ble_eq_true rfl⟩ ?_
  refine lv_i2l (v := v.toInt64) hx hb dL_parentOf_7 rfl ?_
  refine r_last0 hx hb hK hP hD hS dL_parentOf_8 (fun H locs hP hD hS => ?_)
  refine lv_goto (tgt := 15) hx hb dL_parentOf_9 (by decide) ?_
  refine lv_iconst (v := nI 0) hx hb dL_parentOf_15 (by decide) ?_
  exact W.iret hx hb hr (fun t ht hW => ⟨⟨_, (), rfl, rfl, by show va_P D vwCl _ t.heap; rw [ht]; exact hP⟩, hS.F ht⟩) hS.2.2 dL_parentOf_16
