set_option maxHeartbeats 8000000 in
set_option maxRecDepth 100000 in
theorem cL_edited_ok (l : Launch) (D : va_G) (ct : Nat → ClassId) (b : Nat) (x1 x2 x3 x4 : Int32) (v : Int32) (wc w1 : va_W) (fs : List Value) (hwb : wc[0]? = some (b, .inr (3, fs))) (had : w1.map Prod.fst = wc.map Prod.fst) (rf rl : Nat) (hrf : rf ≤ 8) (hrl : rl ≤ 250) (hM : ∀ sz, Met l yX3_edit wsX3_edit ({ frames := rf, cells := 0, slots := 0, locals := rl } : Room) (wrPc D ct [.ref b, .int x1, .int x2, .int x3, .int x4] wc sz) (wqI D v w1 (va_A wc sz)) 0 0 (va_A wc sz)) (sz : Nat) : Met l yL_edited wsL_edited ({ frames := 9, cells := 0, slots := 0, locals := 300 } : Room) (wrPcT D ct [.ref b, .int x1, .int x2, .int x3, .int x4] wc sz) (wqI D v w1 (va_A wc sz)) 0 0 (va_A wc sz) := by
  refine met_ofWH (cc := cL_edited) (maxL := 6) (ret := (some .int)) (hh := [(0, 9, 10, 107)]) (by decide) rfl ?_
  intro p e s m args below meth c s₁ B hml hv
  obtain ⟨rfl, hsz, hP, hK, hD0, hT⟩ := hv
  have hx := B.exec
  have hb := B.bytes
  have hr := B.returns
  have hts := atoms_spec (ws := wsL_edited) B.pre
  have hown : s.vm.findClass RL = some m.cls := findClass_of_methodNamed B.named
  have hlocks := B.notSynchronized
  subst hsz
  have hD := hD0.self (sz := s.heap.size)
  generalize hAe : va_A wc s.heap.size = A at hD ⊢
  have hA : ∀ q : Nat, s.heap.size ≤ q → A q := fun q h => by rw [← hAe]; exact Or.inr h
  have hS : va_S A s.heap s.heap [] := va_S.rf
  clear hAe hD0
  have hl := lv_entry ([.ref b, .int x1, .int x2, .int x3, .int x4]) (n := 6) (Nat.le_of_ble_eq_true rfl)
  rw [lg_entry_eq]
  generalize (lg_sl ([.ref b, .int x1, .int x2, .int x3, .int x4]) ++ List.replicate (6 - (lg_sl ([.ref b, .int x1, .int x2, .int x3, .int x4])).length) Slot.unset).toArray = ls at hl ⊢
  have hl : lv_has ls 6 [(0, .ref b), (1, .int x1), (2, .int x2), (3, .int x3), (4, .int x4)] := hl
  refine lv_aload_n hx hb dL_edited_0 rfl (lv_at hl 0 rfl) ?_
  refine lv_iload_n hx hb dL_edited_1 rfl (lv_at hl 1 rfl) ?_
  refine lv_iload_n hx hb dL_edited_2 rfl (lv_at hl 2 rfl) ?_
  refine lv_iload_n hx hb dL_edited_3 rfl (lv_at hl 3 rfl) ?_
  refine lv_iload hx hb dL_edited_4 (lv_at hl 4 rfl) ?_
  have e3 : fl [wc] = wc := by simp [fl]
  have e4 : fl [w1] = w1 := by simp [fl]
  rw [← e3] at hP hD
  refine r_gV (As := [.int x1, .int x2, .int x3, .int x4]) (rest := []) (Ls := [wc]) (Cs := [wc]) (C1 := [w1]) ⟨hx, hb, hml, hown, hts⟩ (hM _) e3.symm e4.symm (cwV 4 hts gL_edited_X3_edit rfl rfl rfl (by decide +kernel) ⟨by show rf + 1 ≤ 9; omega, by show 8 + (6 + 11) + rl ≤ 300; omega⟩) hK hP hD hS hA [0] rfl rfl (by simp [had]) 0 3 hwb rfl rfl hl.1 rfl (Nat.le_of_ble_eq_true rfl) dL_edited_6 ⟨Nat.le_of_ble_eq_true rfl, Nat.le_of_ble_eq_true rfl⟩ (fun H locs hP hD hS _ _ => ?_)
  have e5 : jnG [wc] [0] [w1] = [w1] := rfl
  rw [e5, e4] at hP
  exact W.iret hx hb hr (fun t ht hW => ⟨⟨_, (), rfl, rfl, by show va_P D vwCl _ t.heap; rw [ht]; exact hP⟩, hS.F ht⟩) hS.2.2 dL_edited_9
set_option maxHeartbeats 8000000 in
set_option maxRecDepth 100000 in
theorem cL_edited_bad (l : Launch) (D : va_G) (ct : Nat → ClassId) (b : Nat) (x1 x2 x3 x4 : Int32) (wc : va_W) (fs : List Value) (hwb : wc[0]? = some (b, .inr (3, fs))) (hM : vx_Met l yX3_edit wsX3_edit ({ frames := 7, cells := 1, slots := 6, locals := 120 } : Room) (bdPc D ct [.ref b, .int x1, .int x2, .int x3, .int x4] wc) bdQ (bdX eS) 1 6 (fun _ => False)) (sz : Nat) : Met l yL_edited wsL_edited ({ frames := 9, cells := 1, slots := 6, locals := 300 } : Room) (wrPcT D ct [.ref b, .int x1, .int x2, .int x3, .int x4] wc sz) (wqI D (-2) wc (va_A wc sz)) 1 6 (va_A wc sz) := by
  refine met_ofWH (cc := cL_edited) (maxL := 6) (ret := (some .int)) (hh := [(0, 9, 10, 107)]) (by decide) rfl ?_
  intro p e s m args below meth c s₁ B hml hv
  obtain ⟨rfl, hsz, hP, hK, hD0, hT⟩ := hv
  have hx := B.exec
  have hb := B.bytes
  have hr := B.returns
  have hts := atoms_spec (ws := wsL_edited) B.pre
  have hown : s.vm.findClass RL = some m.cls := findClass_of_methodNamed B.named
  have hlocks := B.notSynchronized
  subst hsz
  have hD := hD0.self (sz := s.heap.size)
  generalize hAe : va_A wc s.heap.size = A at hD ⊢
  have hA : ∀ q : Nat, s.heap.size ≤ q → A q := fun q h => by rw [← hAe]; exact Or.inr h
  have hS : va_S A s.heap s.heap [] := va_S.rf
  clear hAe hD0
  have hl := lv_entry ([.ref b, .int x1, .int x2, .int x3, .int x4]) (n := 6) (Nat.le_of_ble_eq_true rfl)
  rw [lg_entry_eq]
  generalize (lg_sl ([.ref b, .int x1, .int x2, .int x3, .int x4]) ++ List.replicate (6 - (lg_sl ([.ref b, .int x1, .int x2, .int x3, .int x4])).length) Slot.unset).toArray = ls at hl ⊢
  have hl : lv_has ls 6 [(0, .ref b), (1, .int x1), (2, .int x2), (3, .int x3), (4, .int x4)] := hl
  refine lv_aload_n hx hb dL_edited_0 rfl (lv_at hl 0 rfl) ?_
  refine lv_iload_n hx hb dL_edited_1 rfl (lv_at hl 1 rfl) ?_
  refine lv_iload_n hx hb dL_edited_2 rfl (lv_at hl 2 rfl) ?_
  refine lv_iload_n hx hb dL_edited_3 rfl (lv_at hl 3 rfl) ?_
  refine lv_iload hx hb dL_edited_4 (lv_at hl 4 rfl) ?_
  refine r_xC (As := [.int x1, .int x2, .int x3, .int x4]) (rest := []) ⟨hx, hb, hml, hown, hts⟩ hM (cwV 4 hts gL_edited_X3_edit rfl rfl rfl (by decide +kernel) ⟨Nat.le_of_ble_eq_true rfl, Nat.le_of_ble_eq_true rfl⟩) hK hP hT hS 0 3 hwb rfl rfl hl.1 rfl (Nat.le_of_ble_eq_true rfl) dL_edited_6 ⟨Nat.le_of_ble_eq_true rfl, Nat.le_of_ble_eq_true rfl⟩ hown [] (⟨0, 9, 10, 107⟩ : ExceptionTableEntry) [] ((vx_table (x := yL_edited) B (hts _ List.mem_cons_self)).trans rfl) (fun _ h9 => by cases h9) (by decide) (by decide) (hts (.classLink RL 107 "java/lang/IllegalStateException") (List.mem_of_getElem? (i := 1) rfl)) hT.2.1.1.2.2 (fun H locs q9 hz hk hS => ?_)
  have hP : va_P D vwCl wc H := hP.kept (fun k9 x9 h9 => hk x9.1 ((hP k9 x9 h9).lt))
  refine lv_astore (lv' := [(5, .ref q9), (0, .ref b), (1, .int x1), (2, .int x2), (3, .int x3), (4, .int x4)]) hx hb dL_edited_10 hl (by decide) rfl (fun ls hl => ?_)
  refine lv_bipush (v := -2) hx hb dL_edited_12 (by decide) ?_
  exact W.iret hx hb hr (fun t ht hW => ⟨⟨_, (), rfl, rfl, by show va_P D vwCl _ t.heap; rw [ht]; exact hP⟩, hS.F ht⟩) hS.2.2 dL_edited_14
set_option maxHeartbeats 8000000 in
set_option maxRecDepth 100000 in
theorem cL_deleted_ok (l : Launch) (D : va_G) (ct : Nat → ClassId) (b : Nat) (x1 x2 x3 : Int32) (v : Int32) (wc w1 : va_W) (fs : List Value) (hwb : wc[0]? = some (b, .inr (3, fs))) (had : w1.map Prod.fst = wc.map Prod.fst) (rf rl : Nat) (hrf : rf ≤ 8) (hrl : rl ≤ 250) (hM : ∀ sz, Met l yX3_delete wsX3_delete ({ frames := rf, cells := 0, slots := 0, locals := rl } : Room) (wrPc D ct [.ref b, .int x1, .int x2, .int x3] wc sz) (wqI D v w1 (va_A wc sz)) 0 0 (va_A wc sz)) (sz : Nat) : Met l yL_deleted wsL_deleted ({ frames := 9, cells := 0, slots := 0, locals := 300 } : Room) (wrPcT D ct [.ref b, .int x1, .int x2, .int x3] wc sz) (wqI D v w1 (va_A wc sz)) 0 0 (va_A wc sz) := by
  refine met_ofWH (cc := cL_deleted) (maxL := 5) (ret := (some .int)) (hh := [(0, 7, 8, 107)]) (by decide) rfl ?_
  intro p e s m args below meth c s₁ B hml hv
  obtain ⟨rfl, hsz, hP, hK, hD0, hT⟩ := hv
  have hx := B.exec
  have hb := B.bytes
  have hr := B.returns
  have hts := atoms_spec (ws := wsL_deleted) B.pre
  have hown : s.vm.findClass RL = some m.cls := findClass_of_methodNamed B.named
  have hlocks := B.notSynchronized
  subst hsz
  have hD := hD0.self (sz := s.heap.size)
  generalize hAe : va_A wc s.heap.size = A at hD ⊢
  have hA : ∀ q : Nat, s.heap.size ≤ q → A q := fun q h => by rw [← hAe]; exact Or.inr h
  have hS : va_S A s.heap s.heap [] := va_S.rf
  clear hAe hD0
  have hl := lv_entry ([.ref b, .int x1, .int x2, .int x3]) (n := 5) (Nat.le_of_ble_eq_true rfl)
  rw [lg_entry_eq]
  generalize (lg_sl ([.ref b, .int x1, .int x2, .int x3]) ++ List.replicate (5 - (lg_sl ([.ref b, .int x1, .int x2, .int x3])).length) Slot.unset).toArray = ls at hl ⊢
  have hl : lv_has ls 5 [(0, .ref b), (1, .int x1), (2, .int x2), (3, .int x3)] := hl
  refine lv_aload_n hx hb dL_deleted_0 rfl (lv_at hl 0 rfl) ?_
  refine lv_iload_n hx hb dL_deleted_1 rfl (lv_at hl 1 rfl) ?_
  refine lv_iload_n hx hb dL_deleted_2 rfl (lv_at hl 2 rfl) ?_
  refine lv_iload_n hx hb dL_deleted_3 rfl (lv_at hl 3 rfl) ?_
  have e3 : fl [wc] = wc := by simp [fl]
  have e4 : fl [w1] = w1 := by simp [fl]
  rw [← e3] at hP hD
  refine r_gV (As := [.int x1, .int x2, .int x3]) (rest := []) (Ls := [wc]) (Cs := [wc]) (C1 := [w1]) ⟨hx, hb, hml, hown, hts⟩ (hM _) e3.symm e4.symm (cwV 3 hts gL_deleted_X3_delete rfl rfl rfl (by decide +kernel) ⟨by show rf + 1 ≤ 9; omega, by show 8 + (5 + 11) + rl ≤ 300; omega⟩) hK hP hD hS hA [0] rfl rfl (by simp [had]) 0 3 hwb rfl rfl hl.1 rfl (Nat.le_of_ble_eq_true rfl) dL_deleted_4 ⟨Nat.le_of_ble_eq_true rfl, Nat.le_of_ble_eq_true rfl⟩ (fun H locs hP hD hS _ _ => ?_)
  have e5 : jnG [wc] [0] [w1] = [w1] := rfl
  rw [e5, e4] at hP
  exact W.iret hx hb hr (fun t ht hW => ⟨⟨_, (), rfl, rfl, by show va_P D vwCl _ t.heap; rw [ht]; exact hP⟩, hS.F ht⟩) hS.2.2 dL_deleted_7
set_option maxHeartbeats 8000000 in
set_option maxRecDepth 100000 in
theorem cL_deleted_bad (l : Launch) (D : va_G) (ct : Nat → ClassId) (b : Nat) (x1 x2 x3 : Int32) (wc : va_W) (fs : List Value) (hwb : wc[0]? = some (b, .inr (3, fs))) (hM : vx_Met l yX3_delete wsX3_delete ({ frames := 7, cells := 1, slots := 6, locals := 120 } : Room) (bdPc D ct [.ref b, .int x1, .int x2, .int x3] wc) bdQ (bdX eS) 1 6 (fun _ => False)) (sz : Nat) : Met l yL_deleted wsL_deleted ({ frames := 9, cells := 1, slots := 6, locals := 300 } : Room) (wrPcT D ct [.ref b, .int x1, .int x2, .int x3] wc sz) (wqI D (-2) wc (va_A wc sz)) 1 6 (va_A wc sz) := by
  refine met_ofWH (cc := cL_deleted) (maxL := 5) (ret := (some .int)) (hh := [(0, 7, 8, 107)]) (by decide) rfl ?_
  intro p e s m args below meth c s₁ B hml hv
  obtain ⟨rfl, hsz, hP, hK, hD0, hT⟩ := hv
  have hx := B.exec
  have hb := B.bytes
  have hr := B.returns
  have hts := atoms_spec (ws := wsL_deleted) B.pre
  have hown : s.vm.findClass RL = some m.cls := findClass_of_methodNamed B.named
  have hlocks := B.notSynchronized
  subst hsz
  have hD := hD0.self (sz := s.heap.size)
  generalize hAe : va_A wc s.heap.size = A at hD ⊢
  have hA : ∀ q : Nat, s.heap.size ≤ q → A q := fun q h => by rw [← hAe]; exact Or.inr h
  have hS : va_S A s.heap s.heap [] := va_S.rf
  clear hAe hD0
  have hl := lv_entry ([.ref b, .int x1, .int x2, .int x3]) (n := 5) (Nat.le_of_ble_eq_true rfl)
  rw [lg_entry_eq]
  generalize (lg_sl ([.ref b, .int x1, .int x2, .int x3]) ++ List.replicate (5 - (lg_sl ([.ref b, .int x1, .int x2, .int x3])).length) Slot.unset).toArray = ls at hl ⊢
  have hl : lv_has ls 5 [(0, .ref b), (1, .int x1), (2, .int x2), (3, .int x3)] := hl
  refine lv_aload_n hx hb dL_deleted_0 rfl (lv_at hl 0 rfl) ?_
  refine lv_iload_n hx hb dL_deleted_1 rfl (lv_at hl 1 rfl) ?_
  refine lv_iload_n hx hb dL_deleted_2 rfl (lv_at hl 2 rfl) ?_
  refine lv_iload_n hx hb dL_deleted_3 rfl (lv_at hl 3 rfl) ?_
  refine r_xC (As := [.int x1, .int x2, .int x3]) (rest := []) ⟨hx, hb, hml, hown, hts⟩ hM (cwV 3 hts gL_deleted_X3_delete rfl rfl rfl (by decide +kernel) ⟨Nat.le_of_ble_eq_true rfl, Nat.le_of_ble_eq_true rfl⟩) hK hP hT hS 0 3 hwb rfl rfl hl.1 rfl (Nat.le_of_ble_eq_true rfl) dL_deleted_4 ⟨Nat.le_of_ble_eq_true rfl, Nat.le_of_ble_eq_true rfl⟩ hown [] (⟨0, 7, 8, 107⟩ : ExceptionTableEntry) [] ((vx_table (x := yL_deleted) B (hts _ List.mem_cons_self)).trans rfl) (fun _ h9 => by cases h9) (by decide) (by decide) (hts (.classLink RL 107 "java/lang/IllegalStateException") (List.mem_of_getElem? (i := 1) rfl)) hT.2.1.1.2.2 (fun H locs q9 hz hk hS => ?_)
  have hP : va_P D vwCl wc H := hP.kept (fun k9 x9 h9 => hk x9.1 ((hP k9 x9 h9).lt))
  refine lv_astore (lv' := [(4, .ref q9), (0, .ref b), (1, .int x1), (2, .int x2), (3, .int x3)]) hx hb dL_deleted_8 hl (by decide) rfl (fun ls hl => ?_)
  refine lv_bipush (v := -2) hx hb dL_deleted_10 (by decide) ?_
  exact W.iret hx hb hr (fun t ht hW => ⟨⟨_, (), rfl, rfl, by show va_P D vwCl _ t.heap; rw [ht]; exact hP⟩, hS.F ht⟩) hS.2.2 dL_deleted_12
