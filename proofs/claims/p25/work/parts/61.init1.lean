set_option maxHeartbeats 20000000 in
set_option maxRecDepth 100000 in
theorem cX0_init_ok (l : Launch) (D : va_G) (ct : Nat → ClassId) (h0 : Nat) (sz : Nat) : Met l yX0_init wsX0_init ({ frames := 1, cells := 3, slots := 304, locals := 60 } : Room) (wrPc D ct [.ref h0] [(h0, .inr (0, [.null, .null, .null]))] sz) (inQ D (S := Nat → Nat) (fun u9 => u9 0 = h0) (fun u9 => wH ct u9 (fun _ => false) (fun _ => 151) (fun _ => none)) (va_A [(h0, .inr (0, [.null, .null, .null]))] sz)) 3 304 (va_A [(h0, .inr (0, [.null, .null, .null]))] sz) := by
  refine Met.ofW (cc := cX0_init) (maxL := 1) (ret := none) (by decide) rfl ?_
  intro p e s m args below meth c s₁ B hml hv
  obtain ⟨rfl, hsz, hP, hK, hD0⟩ := hv
  have hx := B.exec
  have hb := B.bytes
  have hr := B.returns
  have hts := atoms_spec (ws := wsX0_init) B.pre
  have hown : s.vm.findClass RX0 = some m.cls := findClass_of_methodNamed B.named
  have hlocks := B.notSynchronized
  have hin : meth.name = "<init>" := (name_of_methodNamed B.named B.method).1
  subst hsz
  have hD := hD0.self (sz := s.heap.size)
  generalize hAe : va_A [(h0, .inr (0, [.null, .null, .null]))] s.heap.size = A at hD ⊢
  have hA : ∀ q : Nat, s.heap.size ≤ q → A q := fun q h => by rw [← hAe]; exact Or.inr h
  have hS : va_S A s.heap s.heap [] := va_S.rf
  have hP : va_P D vwCl [(h0, .inr (0, [.null, .null, .null]))] s.heap := hP
  have hl := lv_entry ([.ref h0]) (n := 1) (Nat.le_of_ble_eq_true rfl)
  rw [lg_entry_eq]
  generalize (lg_sl ([.ref h0]) ++ List.replicate (1 - (lg_sl ([.ref h0])).length) Slot.unset).toArray = ls at hl ⊢
  have hl : lv_has ls 1 [(0, .ref h0)] := hl
  clear hAe hD0
  refine lv_aload_n hx hb dX0_init_0 rfl (lv_at hl 0 rfl) ?_
  refine W.objInit hx hb hown (hts (.methodLink RX0 3 objectInit) (List.mem_of_getElem? (i := 1) rfl)) (hts (.instanceMethod objectInit) (List.mem_of_getElem? (i := 2) rfl)) (hts (.code objectInit ⟨#[0xb1]⟩ 1 none) (List.mem_of_getElem? (i := 3) rfl)) rfl (by rw [hml]; exact hl.1) rfl dX0_init_1 (Nat.le_of_ble_eq_true rfl) (Nat.le_of_ble_eq_true rfl) ?_
  refine W.eq (g2 := F0 m 4 ls []) rfl ?_
  refine lv_aload_n hx hb dX0_init_4 rfl (lv_at hl 0 rfl) ?_
  refine lv_sipush (v := nI 150) hx hb dX0_init_5 (by decide) ?_
  refine r_newz hx hb (hts (.arrayClass .boolean) (List.mem_of_getElem? (i := 4) rfl)) hK hP hD hS hA (fun _ => bI false) (fun _ => rfl) (by decide) (Nat.le_of_ble_eq_true rfl) (Nat.le_of_ble_eq_true rfl) dX0_init_8 (fun q8 H hP hD hS => ?_)
  have hP : va_P D vwCl ([(h0, .inr (0, [.null, .null, .null])), (q8, .inl (ct 1, 150, .inl (fun _ => bI false)))]) H := hP
  have hD : va_D A ([(h0, .inr (0, [.null, .null, .null])), (q8, .inl (ct 1, 150, .inl (fun _ => bI false)))]) := hD
  refine W.widen (k := 1) (n := 150) (by decide) (by decide) ?_
  refine va_putF (D := D) (ci := 0) (v := .ref q8) (ty := .array .boolean) (C := RX0) (T := TX0) (N := 3) hx hb hts (fun _ h => List.mem_cons_of_mem _ (List.mem_append_right _ h)) tyX0 tyX0_ok nmX0 hown hK.1 hP hD hS 0 rfl rfl 0 (by decide) (hts (.fieldLink RX0 9 "RevisionStores$Holding" "held" "[Z") (List.mem_of_getElem? (i := 5) rfl)) (fun _ h9 => h9) rfl hin rfl (by decide +kernel) rfl rfl (Nat.le_of_ble_eq_true rfl) dX0_init_10 (fun H locs hP hD hS => ?_)
  have hP : va_P D vwCl ([(h0, .inr (0, [.ref q8, .null, .null])), (q8, .inl (ct 1, 150, .inl (fun _ => bI false)))]) H := hP
  have hD : va_D A ([(h0, .inr (0, [.ref q8, .null, .null])), (q8, .inl (ct 1, 150, .inl (fun _ => bI false)))]) := hD
  refine lv_aload_n hx hb dX0_init_13 rfl (lv_at hl 0 rfl) ?_
  refine lv_sipush (v := nI 150) hx hb dX0_init_14 (by decide) ?_
  refine r_newi hx hb (hts (.arrayClass .int) (List.mem_of_getElem? (i := 6) rfl)) hK hP hD hS hA (fun _ => nI 0) (fun _ => rfl) (by decide) (Nat.le_of_ble_eq_true rfl) (Nat.le_of_ble_eq_true rfl) dX0_init_17 (fun q17 H hP hD hS => ?_)
  have hP : va_P D vwCl ([(h0, .inr (0, [.ref q8, .null, .null])), (q8, .inl (ct 1, 150, .inl (fun _ => bI false))), (q17, .inl (ct 0, 150, .inl (fun _ => nI 0)))]) H := hP
  have hD : va_D A ([(h0, .inr (0, [.ref q8, .null, .null])), (q8, .inl (ct 1, 150, .inl (fun _ => bI false))), (q17, .inl (ct 0, 150, .inl (fun _ => nI 0)))]) := hD
  refine W.widen (k := 2) (n := 300) (by decide) (by decide) ?_
  refine va_putF (D := D) (ci := 0) (v := .ref q17) (ty := .array .int) (C := RX0) (T := TX0) (N := 3) hx hb hts (fun _ h => List.mem_cons_of_mem _ (List.mem_append_right _ h)) tyX0 tyX0_ok nmX0 hown hK.1 hP hD hS 0 rfl rfl 1 (by decide) (hts (.fieldLink RX0 15 "RevisionStores$Holding" "nearestLeaf" "[I") (List.mem_of_getElem? (i := 7) rfl)) (fun _ h9 => h9) rfl hin rfl (by decide +kernel) rfl rfl (Nat.le_of_ble_eq_true rfl) dX0_init_19 (fun H locs hP hD hS => ?_)
  have hP : va_P D vwCl ([(h0, .inr (0, [.ref q8, .ref q17, .null])), (q8, .inl (ct 1, 150, .inl (fun _ => bI false))), (q17, .inl (ct 0, 150, .inl (fun _ => nI 0)))]) H := hP
  have hD : va_D A ([(h0, .inr (0, [.ref q8, .ref q17, .null])), (q8, .inl (ct 1, 150, .inl (fun _ => bI false))), (q17, .inl (ct 0, 150, .inl (fun _ => nI 0)))]) := hD
  refine lv_aload_n hx hb dX0_init_22 rfl (lv_at hl 0 rfl) ?_
  refine lv_iconst (v := nI 4) hx hb dX0_init_23 (by decide) ?_
  refine r_newi hx hb (hts (.arrayClass .int) (List.mem_of_getElem? (i := 6) rfl)) hK hP hD hS hA (fun _ => nI 0) (fun _ => rfl) (by decide) (Nat.le_of_ble_eq_true rfl) (Nat.le_of_ble_eq_true rfl) dX0_init_24 (fun q24 H hP hD hS => ?_)
  have hP : va_P D vwCl ([(h0, .inr (0, [.ref q8, .ref q17, .null])), (q8, .inl (ct 1, 150, .inl (fun _ => bI false))), (q17, .inl (ct 0, 150, .inl (fun _ => nI 0))), (q24, .inl (ct 0, 4, .inl (fun _ => nI 0)))]) H := hP
  have hD : va_D A ([(h0, .inr (0, [.ref q8, .ref q17, .null])), (q8, .inl (ct 1, 150, .inl (fun _ => bI false))), (q17, .inl (ct 0, 150, .inl (fun _ => nI 0))), (q24, .inl (ct 0, 4, .inl (fun _ => nI 0)))]) := hD
  refine W.widen (k := 3) (n := 304) (by decide) (by decide) ?_
  refine va_putF (D := D) (ci := 0) (v := .ref q24) (ty := .array .int) (C := RX0) (T := TX0) (N := 3) hx hb hts (fun _ h => List.mem_cons_of_mem _ (List.mem_append_right _ h)) tyX0 tyX0_ok nmX0 hown hK.1 hP hD hS 0 rfl rfl 2 (by decide) (hts (.fieldLink RX0 19 "RevisionStores$Holding" "winners" "[I") (List.mem_of_getElem? (i := 8) rfl)) (fun _ h9 => h9) rfl hin rfl (by decide +kernel) rfl rfl (Nat.le_of_ble_eq_true rfl) dX0_init_26 (fun H locs hP hD hS => ?_)
  have hP : va_P D vwCl ([(h0, .inr (0, [.ref q8, .ref q17, .ref q24])), (q8, .inl (ct 1, 150, .inl (fun _ => bI false))), (q17, .inl (ct 0, 150, .inl (fun _ => nI 0))), (q24, .inl (ct 0, 4, .inl (fun _ => nI 0)))]) H := hP
  have hD : va_D A ([(h0, .inr (0, [.ref q8, .ref q17, .ref q24])), (q8, .inl (ct 1, 150, .inl (fun _ => bI false))), (q17, .inl (ct 0, 150, .inl (fun _ => nI 0))), (q24, .inl (ct 0, 4, .inl (fun _ => nI 0)))]) := hD
  refine lv_aload_n hx hb dX0_init_29 rfl (lv_at hl 0 rfl) ?_
  refine va_get (D := D) (ci := 0) (v := .ref q17) (C := RX0) (T := TX0) (N := 3) hx hb hts (fun _ h => List.mem_cons_of_mem _ (List.mem_append_right _ h)) hown hK.1 hP 0 rfl rfl 1 (by decide) (hts (.fieldLink RX0 15 "RevisionStores$Holding" "nearestLeaf" "[I") (List.mem_of_getElem? (i := 7) rfl)) (fun _ h9 => h9) rfl dX0_init_30 ?_
  refine lv_sipush (v := nI 151) hx hb dX0_init_33 (by decide) ?_
  refine r_wSv (As := [.ref q17, .int (nI 151)]) (rest := []) ⟨hx, hb, hml, hown, hts⟩ (cJ7_fill_53178_ok l D ct q17 150 (fun _ => nI 0) (nI 151) (fun _ => nI 151) (by decide) (fun _ _ => rfl) H.size) (va_cwS 2 hts gX0_init_J7_fill_53178 rfl rfl rfl (by decide +kernel) ⟨Nat.le_of_ble_eq_true rfl, Nat.le_of_ble_eq_true rfl⟩) hK hP hD hS hA [2] rfl rfl rfl rfl hl.1 rfl (Nat.le_of_ble_eq_true rfl) dX0_init_36 ⟨Nat.le_of_ble_eq_true rfl, Nat.le_of_ble_eq_true rfl⟩ (fun H locs hP hD hS => ?_)
  have hP : va_P D vwCl ([(h0, .inr (0, [.ref q8, .ref q17, .ref q24])), (q8, .inl (ct 1, 150, .inl (fun _ => bI false))), (q17, .inl (ct 0, 150, .inl (fun _ => nI 151))), (q24, .inl (ct 0, 4, .inl (fun _ => nI 0)))]) H := hP
  have hD : va_D A ([(h0, .inr (0, [.ref q8, .ref q17, .ref q24])), (q8, .inl (ct 1, 150, .inl (fun _ => bI false))), (q17, .inl (ct 0, 150, .inl (fun _ => nI 151))), (q24, .inl (ct 0, 4, .inl (fun _ => nI 0)))]) := hD
  refine lv_aload_n hx hb dX0_init_39 rfl (lv_at hl 0 rfl) ?_
  refine va_get (D := D) (ci := 0) (v := .ref q24) (C := RX0) (T := TX0) (N := 3) hx hb hts (fun _ h => List.mem_cons_of_mem _ (List.mem_append_right _ h)) hown hK.1 hP 0 rfl rfl 2 (by decide) (hts (.fieldLink RX0 19 "RevisionStores$Holding" "winners" "[I") (List.mem_of_getElem? (i := 8) rfl)) (fun _ h9 => h9) rfl dX0_init_40 ?_
  refine lv_iconst (v := -1) hx hb dX0_init_43 (by decide) ?_
  refine r_wSv (As := [.ref q24, .int (-1)]) (rest := []) ⟨hx, hb, hml, hown, hts⟩ (cJ7_fill_53178_ok l D ct q24 4 (fun _ => nI 0) (-1) (fun _ => -1) (by decide) (fun _ _ => rfl) H.size) (va_cwS 2 hts gX0_init_J7_fill_53178 rfl rfl rfl (by decide +kernel) ⟨Nat.le_of_ble_eq_true rfl, Nat.le_of_ble_eq_true rfl⟩) hK hP hD hS hA [3] rfl rfl rfl rfl hl.1 rfl (Nat.le_of_ble_eq_true rfl) dX0_init_44 ⟨Nat.le_of_ble_eq_true rfl, Nat.le_of_ble_eq_true rfl⟩ (fun H locs hP hD hS => ?_)
  have hP : va_P D vwCl ([(h0, .inr (0, [.ref q8, .ref q17, .ref q24])), (q8, .inl (ct 1, 150, .inl (fun _ => bI false))), (q17, .inl (ct 0, 150, .inl (fun _ => nI 151))), (q24, .inl (ct 0, 4, .inl (fun _ => eP none)))]) H := hP
  have hD : va_D A ([(h0, .inr (0, [.ref q8, .ref q17, .ref q24])), (q8, .inl (ct 1, 150, .inl (fun _ => bI false))), (q17, .inl (ct 0, 150, .inl (fun _ => nI 151))), (q24, .inl (ct 0, 4, .inl (fun _ => eP none)))]) := hD
  have hP9 := hP.sub (ws' := wH ct (ad4 h0 q8 q17 q24) (fun _ => false) (fun _ => 151) (fun _ => none)) [0, 1, 2, 3] rfl
  have hD9 := hD.sub (ws' := wH ct (ad4 h0 q8 q17 q24) (fun _ => false) (fun _ => 151) (fun _ => none)) [0, 1, 2, 3] (by decide) rfl
  exact W.vret hx hb hr (fun t ht hW => ⟨⟨ad4 h0 q8 q17 q24, rfl, rfl, by rw [ht]; exact hP9, hD9⟩, hS.F ht⟩) hS.2.2 dX0_init_47
set_option maxHeartbeats 20000000 in
set_option maxRecDepth 100000 in
theorem cX2_init_ok (l : Launch) (D : va_G) (ct : Nat → ClassId) (h0 : Nat) (sz : Nat) : Met l yX2_init wsX2_init ({ frames := 1, cells := 6, slots := 900, locals := 20 } : Room) (wrPc D ct [.ref h0] [(h0, .inr (2, [.null, .null, .null, .null, .null, .null, .int 0]))] sz) (inQ D (S := Nat → Nat) (fun u9 => u9 0 = h0) (fun u9 => wT ct u9 0 (fun _ => 0) (fun _ => some 0) (fun _ => nI 0) (fun _ => false) (fun _ => 0) (fun _ => nI 0)) (va_A [(h0, .inr (2, [.null, .null, .null, .null, .null, .null, .int 0]))] sz)) 6 900 (va_A [(h0, .inr (2, [.null, .null, .null, .null, .null, .null, .int 0]))] sz) := by
  refine Met.ofW (cc := cX2_init) (maxL := 1) (ret := none) (by decide) rfl ?_
  intro p e s m args below meth c s₁ B hml hv
  obtain ⟨rfl, hsz, hP, hK, hD0⟩ := hv
  have hx := B.exec
  have hb := B.bytes
  have hr := B.returns
  have hts := atoms_spec (ws := wsX2_init) B.pre
  have hown : s.vm.findClass RX2 = some m.cls := findClass_of_methodNamed B.named
  have hlocks := B.notSynchronized
  have hin : meth.name = "<init>" := (name_of_methodNamed B.named B.method).1
  subst hsz
  have hD := hD0.self (sz := s.heap.size)
  generalize hAe : va_A [(h0, .inr (2, [.null, .null, .null, .null, .null, .null, .int 0]))] s.heap.size = A at hD ⊢
  have hA : ∀ q : Nat, s.heap.size ≤ q → A q := fun q h => by rw [← hAe]; exact Or.inr h
  have hS : va_S A s.heap s.heap [] := va_S.rf
  have hP : va_P D vwCl [(h0, .inr (2, [.null, .null, .null, .null, .null, .null, .int 0]))] s.heap := hP
  have hl := lv_entry ([.ref h0]) (n := 1) (Nat.le_of_ble_eq_true rfl)
  rw [lg_entry_eq]
  generalize (lg_sl ([.ref h0]) ++ List.replicate (1 - (lg_sl ([.ref h0])).length) Slot.unset).toArray = ls at hl ⊢
  have hl : lv_has ls 1 [(0, .ref h0)] := hl
  clear hAe hD0
  refine lv_aload_n hx hb dX2_init_0 rfl (lv_at hl 0 rfl) ?_
  refine W.objInit hx hb hown (hts (.methodLink RX2 3 objectInit) (List.mem_of_getElem? (i := 1) rfl)) (hts (.instanceMethod objectInit) (List.mem_of_getElem? (i := 2) rfl)) (hts (.code objectInit ⟨#[0xb1]⟩ 1 none) (List.mem_of_getElem? (i := 3) rfl)) rfl (by rw [hml]; exact hl.1) rfl dX2_init_1 (Nat.le_of_ble_eq_true rfl) (Nat.le_of_ble_eq_true rfl) ?_
  refine W.eq (g2 := F0 m 4 ls []) rfl ?_
  refine lv_aload_n hx hb dX2_init_4 rfl (lv_at hl 0 rfl) ?_
  refine lv_sipush (v := nI 150) hx hb dX2_init_5 (by decide) ?_
  refine r_newi hx hb (hts (.arrayClass .int) (List.mem_of_getElem? (i := 4) rfl)) hK hP hD hS hA (fun _ => nI 0) (fun _ => rfl) (by decide) (Nat.le_of_ble_eq_true rfl) (Nat.le_of_ble_eq_true rfl) dX2_init_8 (fun q8 H hP hD hS => ?_)
  have hP : va_P D vwCl ([(h0, .inr (2, [.null, .null, .null, .null, .null, .null, .int 0])), (q8, .inl (ct 0, 150, .inl (fun _ => nI 0)))]) H := hP
  have hD : va_D A ([(h0, .inr (2, [.null, .null, .null, .null, .null, .null, .int 0])), (q8, .inl (ct 0, 150, .inl (fun _ => nI 0)))]) := hD
  refine W.widen (k := 1) (n := 150) (by decide) (by decide) ?_
  refine va_putF (D := D) (ci := 2) (v := .ref q8) (ty := .array .int) (C := RX2) (T := TX2) (N := 7) hx hb hts (fun _ h => List.mem_cons_of_mem _ (List.mem_append_right _ h)) tyX2 tyX2_ok nmX2 hown hK.1 hP hD hS 0 rfl rfl 0 (by decide) (hts (.fieldLink RX2 9 "RevisionStores$Tree" "documents" "[I") (List.mem_of_getElem? (i := 5) rfl)) (fun _ h9 => h9) rfl hin rfl (by decide +kernel) rfl rfl (Nat.le_of_ble_eq_true rfl) dX2_init_10 (fun H locs hP hD hS => ?_)
  have hP : va_P D vwCl ([(h0, .inr (2, [.ref q8, .null, .null, .null, .null, .null, .int 0])), (q8, .inl (ct 0, 150, .inl (fun _ => nI 0)))]) H := hP
  have hD : va_D A ([(h0, .inr (2, [.ref q8, .null, .null, .null, .null, .null, .int 0])), (q8, .inl (ct 0, 150, .inl (fun _ => nI 0)))]) := hD
  refine lv_aload_n hx hb dX2_init_13 rfl (lv_at hl 0 rfl) ?_
  refine lv_sipush (v := nI 150) hx hb dX2_init_14 (by decide) ?_
  refine r_newi hx hb (hts (.arrayClass .int) (List.mem_of_getElem? (i := 4) rfl)) hK hP hD hS hA (fun _ => eP (some 0)) (fun _ => rfl) (by decide) (Nat.le_of_ble_eq_true rfl) (Nat.le_of_ble_eq_true rfl) dX2_init_17 (fun q17 H hP hD hS => ?_)
  have hP : va_P D vwCl ([(h0, .inr (2, [.ref q8, .null, .null, .null, .null, .null, .int 0])), (q8, .inl (ct 0, 150, .inl (fun _ => nI 0))), (q17, .inl (ct 0, 150, .inl (fun _ => eP (some 0))))]) H := hP
  have hD : va_D A ([(h0, .inr (2, [.ref q8, .null, .null, .null, .null, .null, .int 0])), (q8, .inl (ct 0, 150, .inl (fun _ => nI 0))), (q17, .inl (ct 0, 150, .inl (fun _ => eP (some 0))))]) := hD
  refine W.widen (k := 2) (n := 300) (by decide) (by decide) ?_
  refine va_putF (D := D) (ci := 2) (v := .ref q17) (ty := .array .int) (C := RX2) (T := TX2) (N := 7) hx hb hts (fun _ h => List.mem_cons_of_mem _ (List.mem_append_right _ h)) tyX2 tyX2_ok nmX2 hown hK.1 hP hD hS 0 rfl rfl 1 (by decide) (hts (.fieldLink RX2 15 "RevisionStores$Tree" "parents" "[I") (List.mem_of_getElem? (i := 6) rfl)) (fun _ h9 => h9) rfl hin rfl (by decide +kernel) rfl rfl (Nat.le_of_ble_eq_true rfl) dX2_init_19 (fun H locs hP hD hS => ?_)
  have hP : va_P D vwCl ([(h0, .inr (2, [.ref q8, .ref q17, .null, .null, .null, .null, .int 0])), (q8, .inl (ct 0, 150, .inl (fun _ => nI 0))), (q17, .inl (ct 0, 150, .inl (fun _ => eP (some 0))))]) H := hP
  have hD : va_D A ([(h0, .inr (2, [.ref q8, .ref q17, .null, .null, .null, .null, .int 0])), (q8, .inl (ct 0, 150, .inl (fun _ => nI 0))), (q17, .inl (ct 0, 150, .inl (fun _ => eP (some 0))))]) := hD
  refine lv_aload_n hx hb dX2_init_22 rfl (lv_at hl 0 rfl) ?_
  refine lv_sipush (v := nI 150) hx hb dX2_init_23 (by decide) ?_
  refine r_newi hx hb (hts (.arrayClass .int) (List.mem_of_getElem? (i := 4) rfl)) hK hP hD hS hA (fun _ => nI 0) (fun _ => rfl) (by decide) (Nat.le_of_ble_eq_true rfl) (Nat.le_of_ble_eq_true rfl) dX2_init_26 (fun q26 H hP hD hS => ?_)
  have hP : va_P D vwCl ([(h0, .inr (2, [.ref q8, .ref q17, .null, .null, .null, .null, .int 0])), (q8, .inl (ct 0, 150, .inl (fun _ => nI 0))), (q17, .inl (ct 0, 150, .inl (fun _ => eP (some 0)))), (q26, .inl (ct 0, 150, .inl (fun _ => nI 0)))]) H := hP
  have hD : va_D A ([(h0, .inr (2, [.ref q8, .ref q17, .null, .null, .null, .null, .int 0])), (q8, .inl (ct 0, 150, .inl (fun _ => nI 0))), (q17, .inl (ct 0, 150, .inl (fun _ => eP (some 0)))), (q26, .inl (ct 0, 150, .inl (fun _ => nI 0)))]) := hD
  refine W.widen (k := 3) (n := 450) (by decide) (by decide) ?_
  refine va_putF (D := D) (ci := 2) (v := .ref q26) (ty := .array .int) (C := RX2) (T := TX2) (N := 7) hx hb hts (fun _ h => List.mem_cons_of_mem _ (List.mem_append_right _ h)) tyX2 tyX2_ok nmX2 hown hK.1 hP hD hS 0 rfl rfl 2 (by decide) (hts (.fieldLink RX2 18 "RevisionStores$Tree" "values" "[I") (List.mem_of_getElem? (i := 7) rfl)) (fun _ h9 => h9) rfl hin rfl (by decide +kernel) rfl rfl (Nat.le_of_ble_eq_true rfl) dX2_init_28 (fun H locs hP hD hS => ?_)
  have hP : va_P D vwCl ([(h0, .inr (2, [.ref q8, .ref q17, .ref q26, .null, .null, .null, .int 0])), (q8, .inl (ct 0, 150, .inl (fun _ => nI 0))), (q17, .inl (ct 0, 150, .inl (fun _ => eP (some 0)))), (q26, .inl (ct 0, 150, .inl (fun _ => nI 0)))]) H := hP
  have hD : va_D A ([(h0, .inr (2, [.ref q8, .ref q17, .ref q26, .null, .null, .null, .int 0])), (q8, .inl (ct 0, 150, .inl (fun _ => nI 0))), (q17, .inl (ct 0, 150, .inl (fun _ => eP (some 0)))), (q26, .inl (ct 0, 150, .inl (fun _ => nI 0)))]) := hD
  refine lv_aload_n hx hb dX2_init_31 rfl (lv_at hl 0 rfl) ?_
  refine lv_sipush (v := nI 150) hx hb dX2_init_32 (by decide) ?_
  refine r_newz hx hb (hts (.arrayClass .boolean) (List.mem_of_getElem? (i := 8) rfl)) hK hP hD hS hA (fun _ => bI false) (fun _ => rfl) (by decide) (Nat.le_of_ble_eq_true rfl) (Nat.le_of_ble_eq_true rfl) dX2_init_35 (fun q35 H hP hD hS => ?_)
  have hP : va_P D vwCl ([(h0, .inr (2, [.ref q8, .ref q17, .ref q26, .null, .null, .null, .int 0])), (q8, .inl (ct 0, 150, .inl (fun _ => nI 0))), (q17, .inl (ct 0, 150, .inl (fun _ => eP (some 0)))), (q26, .inl (ct 0, 150, .inl (fun _ => nI 0))), (q35, .inl (ct 1, 150, .inl (fun _ => bI false)))]) H := hP
  have hD : va_D A ([(h0, .inr (2, [.ref q8, .ref q17, .ref q26, .null, .null, .null, .int 0])), (q8, .inl (ct 0, 150, .inl (fun _ => nI 0))), (q17, .inl (ct 0, 150, .inl (fun _ => eP (some 0)))), (q26, .inl (ct 0, 150, .inl (fun _ => nI 0))), (q35, .inl (ct 1, 150, .inl (fun _ => bI false)))]) := hD
  refine W.widen (k := 4) (n := 600) (by decide) (by decide) ?_
  refine va_putF (D := D) (ci := 2) (v := .ref q35) (ty := .array .boolean) (C := RX2) (T := TX2) (N := 7) hx hb hts (fun _ h => List.mem_cons_of_mem _ (List.mem_append_right _ h)) tyX2 tyX2_ok nmX2 hown hK.1 hP hD hS 0 rfl rfl 3 (by decide) (hts (.fieldLink RX2 21 "RevisionStores$Tree" "deletions" "[Z") (List.mem_of_getElem? (i := 9) rfl)) (fun _ h9 => h9) rfl hin rfl (by decide +kernel) rfl rfl (Nat.le_of_ble_eq_true rfl) dX2_init_37 (fun H locs hP hD hS => ?_)
  have hP : va_P D vwCl ([(h0, .inr (2, [.ref q8, .ref q17, .ref q26, .ref q35, .null, .null, .int 0])), (q8, .inl (ct 0, 150, .inl (fun _ => nI 0))), (q17, .inl (ct 0, 150, .inl (fun _ => eP (some 0)))), (q26, .inl (ct 0, 150, .inl (fun _ => nI 0))), (q35, .inl (ct 1, 150, .inl (fun _ => bI false)))]) H := hP
  have hD : va_D A ([(h0, .inr (2, [.ref q8, .ref q17, .ref q26, .ref q35, .null, .null, .int 0])), (q8, .inl (ct 0, 150, .inl (fun _ => nI 0))), (q17, .inl (ct 0, 150, .inl (fun _ => eP (some 0)))), (q26, .inl (ct 0, 150, .inl (fun _ => nI 0))), (q35, .inl (ct 1, 150, .inl (fun _ => bI false)))]) := hD
  refine lv_aload_n hx hb dX2_init_40 rfl (lv_at hl 0 rfl) ?_
  refine lv_sipush (v := nI 150) hx hb dX2_init_41 (by decide) ?_
  refine r_newi hx hb (hts (.arrayClass .int) (List.mem_of_getElem? (i := 4) rfl)) hK hP hD hS hA (fun _ => nI 0) (fun _ => rfl) (by decide) (Nat.le_of_ble_eq_true rfl) (Nat.le_of_ble_eq_true rfl) dX2_init_44 (fun q44 H hP hD hS => ?_)
  have hP : va_P D vwCl ([(h0, .inr (2, [.ref q8, .ref q17, .ref q26, .ref q35, .null, .null, .int 0])), (q8, .inl (ct 0, 150, .inl (fun _ => nI 0))), (q17, .inl (ct 0, 150, .inl (fun _ => eP (some 0)))), (q26, .inl (ct 0, 150, .inl (fun _ => nI 0))), (q35, .inl (ct 1, 150, .inl (fun _ => bI false))), (q44, .inl (ct 0, 150, .inl (fun _ => nI 0)))]) H := hP
  have hD : va_D A ([(h0, .inr (2, [.ref q8, .ref q17, .ref q26, .ref q35, .null, .null, .int 0])), (q8, .inl (ct 0, 150, .inl (fun _ => nI 0))), (q17, .inl (ct 0, 150, .inl (fun _ => eP (some 0)))), (q26, .inl (ct 0, 150, .inl (fun _ => nI 0))), (q35, .inl (ct 1, 150, .inl (fun _ => bI false))), (q44, .inl (ct 0, 150, .inl (fun _ => nI 0)))]) := hD
  refine W.widen (k := 5) (n := 750) (by decide) (by decide) ?_
  refine va_putF (D := D) (ci := 2) (v := .ref q44) (ty := .array .int) (C := RX2) (T := TX2) (N := 7) hx hb hts (fun _ h => List.mem_cons_of_mem _ (List.mem_append_right _ h)) tyX2 tyX2_ok nmX2 hown hK.1 hP hD hS 0 rfl rfl 4 (by decide) (hts (.fieldLink RX2 25 "RevisionStores$Tree" "generations" "[I") (List.mem_of_getElem? (i := 10) rfl)) (fun _ h9 => h9) rfl hin rfl (by decide +kernel) rfl rfl (Nat.le_of_ble_eq_true rfl) dX2_init_46 (fun H locs hP hD hS => ?_)
  have hP : va_P D vwCl ([(h0, .inr (2, [.ref q8, .ref q17, .ref q26, .ref q35, .ref q44, .null, .int 0])), (q8, .inl (ct 0, 150, .inl (fun _ => nI 0))), (q17, .inl (ct 0, 150, .inl (fun _ => eP (some 0)))), (q26, .inl (ct 0, 150, .inl (fun _ => nI 0))), (q35, .inl (ct 1, 150, .inl (fun _ => bI false))), (q44, .inl (ct 0, 150, .inl (fun _ => nI 0)))]) H := hP
  have hD : va_D A ([(h0, .inr (2, [.ref q8, .ref q17, .ref q26, .ref q35, .ref q44, .null, .int 0])), (q8, .inl (ct 0, 150, .inl (fun _ => nI 0))), (q17, .inl (ct 0, 150, .inl (fun _ => eP (some 0)))), (q26, .inl (ct 0, 150, .inl (fun _ => nI 0))), (q35, .inl (ct 1, 150, .inl (fun _ => bI false))), (q44, .inl (ct 0, 150, .inl (fun _ => nI 0)))]) := hD
  refine lv_aload_n hx hb dX2_init_49 rfl (lv_at hl 0 rfl) ?_
  refine lv_sipush (v := nI 150) hx hb dX2_init_50 (by decide) ?_
  refine r_newi hx hb (hts (.arrayClass .int) (List.mem_of_getElem? (i := 4) rfl)) hK hP hD hS hA (fun _ => nI 0) (fun _ => rfl) (by decide) (Nat.le_of_ble_eq_true rfl) (Nat.le_of_ble_eq_true rfl) dX2_init_53 (fun q53 H hP hD hS => ?_)
  have hP : va_P D vwCl ([(h0, .inr (2, [.ref q8, .ref q17, .ref q26, .ref q35, .ref q44, .null, .int 0])), (q8, .inl (ct 0, 150, .inl (fun _ => nI 0))), (q17, .inl (ct 0, 150, .inl (fun _ => eP (some 0)))), (q26, .inl (ct 0, 150, .inl (fun _ => nI 0))), (q35, .inl (ct 1, 150, .inl (fun _ => bI false))), (q44, .inl (ct 0, 150, .inl (fun _ => nI 0))), (q53, .inl (ct 0, 150, .inl (fun _ => nI 0)))]) H := hP
  have hD : va_D A ([(h0, .inr (2, [.ref q8, .ref q17, .ref q26, .ref q35, .ref q44, .null, .int 0])), (q8, .inl (ct 0, 150, .inl (fun _ => nI 0))), (q17, .inl (ct 0, 150, .inl (fun _ => eP (some 0)))), (q26, .inl (ct 0, 150, .inl (fun _ => nI 0))), (q35, .inl (ct 1, 150, .inl (fun _ => bI false))), (q44, .inl (ct 0, 150, .inl (fun _ => nI 0))), (q53, .inl (ct 0, 150, .inl (fun _ => nI 0)))]) := hD
  refine W.widen (k := 6) (n := 900) (by decide) (by decide) ?_
  refine va_putF (D := D) (ci := 2) (v := .ref q53) (ty := .array .int) (C := RX2) (T := TX2) (N := 7) hx hb hts (fun _ h => List.mem_cons_of_mem _ (List.mem_append_right _ h)) tyX2 tyX2_ok nmX2 hown hK.1 hP hD hS 0 rfl rfl 5 (by decide) (hts (.fieldLink RX2 28 "RevisionStores$Tree" "sums" "[I") (List.mem_of_getElem? (i := 11) rfl)) (fun _ h9 => h9) rfl hin rfl (by decide +kernel) rfl rfl (Nat.le_of_ble_eq_true rfl) dX2_init_55 (fun H locs hP hD hS => ?_)
  have hP : va_P D vwCl ([(h0, .inr (2, [.ref q8, .ref q17, .ref q26, .ref q35, .ref q44, .ref q53, .int 0])), (q8, .inl (ct 0, 150, .inl (fun _ => nI 0))), (q17, .inl (ct 0, 150, .inl (fun _ => eP (some 0)))), (q26, .inl (ct 0, 150, .inl (fun _ => nI 0))), (q35, .inl (ct 1, 150, .inl (fun _ => bI false))), (q44, .inl (ct 0, 150, .inl (fun _ => nI 0))), (q53, .inl (ct 0, 150, .inl (fun _ => nI 0)))]) H := hP
  have hD : va_D A ([(h0, .inr (2, [.ref q8, .ref q17, .ref q26, .ref q35, .ref q44, .ref q53, .int 0])), (q8, .inl (ct 0, 150, .inl (fun _ => nI 0))), (q17, .inl (ct 0, 150, .inl (fun _ => eP (some 0)))), (q26, .inl (ct 0, 150, .inl (fun _ => nI 0))), (q35, .inl (ct 1, 150, .inl (fun _ => bI false))), (q44, .inl (ct 0, 150, .inl (fun _ => nI 0))), (q53, .inl (ct 0, 150, .inl (fun _ => nI 0)))]) := hD
  refine lv_aload_n hx hb dX2_init_58 rfl (lv_at hl 0 rfl) ?_
  refine lv_iconst (v := nI 0) hx hb dX2_init_59 (by decide) ?_
  refine va_put (D := D) (ci := 2) (v := .int (nI 0)) (ty := .int) (C := RX2) (T := TX2) (N := 7) hx hb hts (fun _ h => List.mem_cons_of_mem _ (List.mem_append_right _ h)) tyX2 tyX2_ok nmX2 hown hK.1 hP hD hS 0 rfl rfl 6 (by decide) (hts (.fieldLink RX2 31 "RevisionStores$Tree" "made" "I") (List.mem_of_getElem? (i := 12) rfl)) (fun _ h9 => h9) rfl (by decide +kernel) rfl rfl (Nat.le_of_ble_eq_true rfl) dX2_init_60 (fun H locs hP hD hS => ?_)
  have hP : va_P D vwCl ([(h0, .inr (2, [.ref q8, .ref q17, .ref q26, .ref q35, .ref q44, .ref q53, .int (nI 0)])), (q8, .inl (ct 0, 150, .inl (fun _ => nI 0))), (q17, .inl (ct 0, 150, .inl (fun _ => eP (some 0)))), (q26, .inl (ct 0, 150, .inl (fun _ => nI 0))), (q35, .inl (ct 1, 150, .inl (fun _ => bI false))), (q44, .inl (ct 0, 150, .inl (fun _ => nI 0))), (q53, .inl (ct 0, 150, .inl (fun _ => nI 0)))]) H := hP
  have hD : va_D A ([(h0, .inr (2, [.ref q8, .ref q17, .ref q26, .ref q35, .ref q44, .ref q53, .int (nI 0)])), (q8, .inl (ct 0, 150, .inl (fun _ => nI 0))), (q17, .inl (ct 0, 150, .inl (fun _ => eP (some 0)))), (q26, .inl (ct 0, 150, .inl (fun _ => nI 0))), (q35, .inl (ct 1, 150, .inl (fun _ => bI false))), (q44, .inl (ct 0, 150, .inl (fun _ => nI 0))), (q53, .inl (ct 0, 150, .inl (fun _ => nI 0)))]) := hD
  have hP9 := hP.sub (ws' := wT ct (ad7 h0 q8 q17 q26 q35 q44 q53) 0 (fun _ => 0) (fun _ => some 0) (fun _ => nI 0) (fun _ => false) (fun _ => 0) (fun _ => nI 0)) [0, 1, 2, 3, 4, 5, 6] rfl
  have hD9 := hD.sub (ws' := wT ct (ad7 h0 q8 q17 q26 q35 q44 q53) 0 (fun _ => 0) (fun _ => some 0) (fun _ => nI 0) (fun _ => false) (fun _ => 0) (fun _ => nI 0)) [0, 1, 2, 3, 4, 5, 6] (by decide) rfl
  exact W.vret hx hb hr (fun t ht hW => ⟨⟨ad7 h0 q8 q17 q26 q35 q44 q53, rfl, rfl, by rw [ht]; exact hP9, hD9⟩, hS.F ht⟩) hS.2.2 dX2_init_63
set_option maxHeartbeats 20000000 in
set_option maxRecDepth 100000 in
theorem cX1_init_ok (l : Launch) (D : va_G) (ct : Nat → ClassId) (h0 : Nat) (sz : Nat) : Met l yX1_init wsX1_init ({ frames := 2, cells := 6, slots := 320, locals := 100 } : Room) (wrPc D ct [.ref h0] [(h0, .inr (1, [.null, .int 0, .int 0, .null, .null]))] sz) (inQ D (S := (Nat → Nat) × (Nat → Nat)) (fun u9 => u9.1 0 = h0) (fun u9 => wS ct u9.1 u9.2 (nI 20) (nI 0) (fun _ => nI 0) (fun _ => nI 0) ++ wH ct u9.2 (fun _ => false) (fun _ => 151) (fun _ => none)) (va_A [(h0, .inr (1, [.null, .int 0, .int 0, .null, .null]))] sz)) 6 320 (va_A [(h0, .inr (1, [.null, .int 0, .int 0, .null, .null]))] sz) := by
  refine Met.ofW (cc := cX1_init) (maxL := 1) (ret := none) (by decide) rfl ?_
  intro p e s m args below meth c s₁ B hml hv
  obtain ⟨rfl, hsz, hP, hK, hD0⟩ := hv
  have hx := B.exec
  have hb := B.bytes
  have hr := B.returns
  have hts := atoms_spec (ws := wsX1_init) B.pre
  have hown : s.vm.findClass RX1 = some m.cls := findClass_of_methodNamed B.named
  have hlocks := B.notSynchronized
  have hin : meth.name = "<init>" := (name_of_methodNamed B.named B.method).1
  subst hsz
  have hD := hD0.self (sz := s.heap.size)
  generalize hAe : va_A [(h0, .inr (1, [.null, .int 0, .int 0, .null, .null]))] s.heap.size = A at hD ⊢
  have hA : ∀ q : Nat, s.heap.size ≤ q → A q := fun q h => by rw [← hAe]; exact Or.inr h
  have hS : va_S A s.heap s.heap [] := va_S.rf
  have hP : va_P D vwCl [(h0, .inr (1, [.null, .int 0, .int 0, .null, .null]))] s.heap := hP
  have hl := lv_entry ([.ref h0]) (n := 1) (Nat.le_of_ble_eq_true rfl)
  rw [lg_entry_eq]
  generalize (lg_sl ([.ref h0]) ++ List.replicate (1 - (lg_sl ([.ref h0])).length) Slot.unset).toArray = ls at hl ⊢
  have hl : lv_has ls 1 [(0, .ref h0)] := hl
  clear hAe hD0
  refine lv_aload_n hx hb dX1_init_0 rfl (lv_at hl 0 rfl) ?_
  refine W.objInit hx hb hown (hts (.methodLink RX1 3 objectInit) (List.mem_of_getElem? (i := 1) rfl)) (hts (.instanceMethod objectInit) (List.mem_of_getElem? (i := 2) rfl)) (hts (.code objectInit ⟨#[0xb1]⟩ 1 none) (List.mem_of_getElem? (i := 3) rfl)) rfl (by rw [hml]; exact hl.1) rfl dX1_init_1 (Nat.le_of_ble_eq_true rfl) (Nat.le_of_ble_eq_true rfl) ?_
  refine W.eq (g2 := F0 m 4 ls []) rfl ?_
  refine lv_aload_n hx hb dX1_init_4 rfl (lv_at hl 0 rfl) ?_
  refine va_new (ci := 0) (fs := [.null, .null, .null]) (C := RX0) (T := TX0) (N := 3) hx hb hts (fun _ h => List.mem_cons_of_mem _ (List.mem_append_left _ (List.mem_append_right _ h))) tyX0 tyX0_ok hown (hts (.classLink RX1 9 "RevisionStores$Holding") (List.mem_of_getElem? (i := 4) rfl)) (hts (.instantiable RX0 3) (List.mem_of_getElem? (i := 5) rfl)) (hts (.initialized RX0) (List.mem_of_getElem? (i := 6) rfl)) hK.1 hP hD hS hA rfl (fun j hj => by rcases (show j = 0 ∨ j = 1 ∨ j = 2 by omega) with rfl | rfl | rfl <;> rfl) (Nat.le_of_ble_eq_true rfl) (Nat.le_of_ble_eq_true rfl) dX1_init_5 (fun q5_4 H hP hD hS => ?_)
  have hP : va_P D vwCl ([(h0, .inr (1, [.null, .int 0, .int 0, .null, .null])), (q5_4, .inr (0, [.null, .null, .null]))]) H := hP
  have hD : va_D A ([(h0, .inr (1, [.null, .int 0, .int 0, .null, .null])), (q5_4, .inr (0, [.null, .null, .null]))]) := hD
  refine W.widen (k := 1) (n := 3) (by decide) (by decide) ?_
  refine lv_dup hx hb dX1_init_8 rfl ?_
  refine r_iniI (rest := [.ref q5_4, .ref h0]) (wr := ([(h0, .inr (1, [.null, .int 0, .int 0, .null, .null]))])) ⟨hx, hb, hml, hown, hts⟩ (cX0_init_ok l D ct q5_4 H.size) (cwI 0 hts gX1_init_X0_init rfl rfl rfl (hts (.initialized RX0) (List.mem_of_getElem? (i := 6) rfl)) (hts (.methodLink RX1 11 yX0_init) (List.mem_of_getElem? (i := 13) rfl)) (hts (.instanceMethod yX0_init) (List.mem_of_getElem? (i := 14) rfl)) rfl (by decide +kernel) ⟨Nat.le_of_ble_eq_true rfl, Nat.le_of_ble_eq_true rfl⟩) hK hP hD hS hA [1] [0] rfl rfl rfl rfl (by decide) hl.1 rfl (Nat.le_of_ble_eq_true rfl) dX1_init_9 ⟨Nat.le_of_ble_eq_true rfl, Nat.le_of_ble_eq_true rfl⟩ (fun u9_6 H locs hu hP hD hS => ?_)
  rw [show q5_4 = u9_6 0 from hu.symm]
  have hP : va_P D vwCl ([(h0, .inr (1, [.null, .int 0, .int 0, .null, .null]))] ++ wH ct u9_6 (fun _ => false) (fun _ => 151) (fun _ => none)) H := hP
  have hD : va_D A ([(h0, .inr (1, [.null, .int 0, .int 0, .null, .null]))] ++ wH ct u9_6 (fun _ => false) (fun _ => 151) (fun _ => none)) := hD
  refine W.widen (k := 4) (n := 307) (by decide) (by decide) ?_
  refine va_putF (D := D) (ci := 1) (v := .ref (u9_6 0)) (ty := .object "RevisionStores$Holding") (C := RX1) (T := TX1) (N := 5) hx hb hts (fun _ h => List.mem_cons_of_mem _ (List.mem_append_right _ h)) tyX1 tyX1_ok nmX1 hown hK.1 hP hD hS 0 rfl rfl 0 (by decide) (hts (.fieldLink RX1 12 "RevisionStores$Store" "holding" "LRevisionStores$Holding;") (List.mem_of_getElem? (i := 7) rfl)) (fun _ h9 => h9) rfl hin rfl (by decide +kernel) rfl rfl (Nat.le_of_ble_eq_true rfl) dX1_init_12 (fun H locs hP hD hS => ?_)
  have hP : va_P D vwCl ([(h0, .inr (1, [.ref (u9_6 0), .int 0, .int 0, .null, .null]))] ++ wH ct u9_6 (fun _ => false) (fun _ => 151) (fun _ => none)) H := hP
  have hD : va_D A ([(h0, .inr (1, [.ref (u9_6 0), .int 0, .int 0, .null, .null]))] ++ wH ct u9_6 (fun _ => false) (fun _ => 151) (fun _ => none)) := hD
  refine lv_aload_n hx hb dX1_init_15 rfl (lv_at hl 0 rfl) ?_
  refine lv_bipush (v := nI 20) hx hb dX1_init_16 (by decide) ?_
  refine va_put (D := D) (ci := 1) (v := .int (nI 20)) (ty := .int) (C := RX1) (T := TX1) (N := 5) hx hb hts (fun _ h => List.mem_cons_of_mem _ (List.mem_append_right _ h)) tyX1 tyX1_ok nmX1 hown hK.1 hP hD hS 0 rfl rfl 1 (by decide) (hts (.fieldLink RX1 18 "RevisionStores$Store" "depth" "I") (List.mem_of_getElem? (i := 8) rfl)) (fun _ h9 => h9) rfl (by decide +kernel) rfl rfl (Nat.le_of_ble_eq_true rfl) dX1_init_18 (fun H locs hP hD hS => ?_)
  have hP : va_P D vwCl ([(h0, .inr (1, [.ref (u9_6 0), .int (nI 20), .int 0, .null, .null]))] ++ wH ct u9_6 (fun _ => false) (fun _ => 151) (fun _ => none)) H := hP
  have hD : va_D A ([(h0, .inr (1, [.ref (u9_6 0), .int (nI 20), .int 0, .null, .null]))] ++ wH ct u9_6 (fun _ => false) (fun _ => 151) (fun _ => none)) := hD
  refine lv_aload_n hx hb dX1_init_21 rfl (lv_at hl 0 rfl) ?_
  refine lv_iconst (v := nI 0) hx hb dX1_init_22 (by decide) ?_
  refine va_put (D := D) (ci := 1) (v := .int (nI 0)) (ty := .int) (C := RX1) (T := TX1) (N := 5) hx hb hts (fun _ h => List.mem_cons_of_mem _ (List.mem_append_right _ h)) tyX1 tyX1_ok nmX1 hown hK.1 hP hD hS 0 rfl rfl 2 (by decide) (hts (.fieldLink RX1 22 "RevisionStores$Store" "latest" "I") (List.mem_of_getElem? (i := 9) rfl)) (fun _ h9 => h9) rfl (by decide +kernel) rfl rfl (Nat.le_of_ble_eq_true rfl) dX1_init_23 (fun H locs hP hD hS => ?_)
  have hP : va_P D vwCl ([(h0, .inr (1, [.ref (u9_6 0), .int (nI 20), .int (nI 0), .null, .null]))] ++ wH ct u9_6 (fun _ => false) (fun _ => 151) (fun _ => none)) H := hP
  have hD : va_D A ([(h0, .inr (1, [.ref (u9_6 0), .int (nI 20), .int (nI 0), .null, .null]))] ++ wH ct u9_6 (fun _ => false) (fun _ => 151) (fun _ => none)) := hD
  refine lv_aload_n hx hb dX1_init_26 rfl (lv_at hl 0 rfl) ?_
  refine lv_iconst (v := nI 4) hx hb dX1_init_27 (by decide) ?_
  refine r_newi hx hb (hts (.arrayClass .int) (List.mem_of_getElem? (i := 10) rfl)) hK hP hD hS hA (fun _ => nI 0) (fun _ => rfl) (by decide) (Nat.le_of_ble_eq_true rfl) (Nat.le_of_ble_eq_true rfl) dX1_init_28 (fun q28 H hP hD hS => ?_)
  have hP : va_P D vwCl ([(h0, .inr (1, [.ref (u9_6 0), .int (nI 20), .int (nI 0), .null, .null]))] ++ wH ct u9_6 (fun _ => false) (fun _ => 151) (fun _ => none) ++ [(q28, .inl (ct 0, 4, .inl (fun _ => nI 0)))]) H := hP
  have hD : va_D A ([(h0, .inr (1, [.ref (u9_6 0), .int (nI 20), .int (nI 0), .null, .null]))] ++ wH ct u9_6 (fun _ => false) (fun _ => 151) (fun _ => none) ++ [(q28, .inl (ct 0, 4, .inl (fun _ => nI 0)))]) := hD
  refine W.widen (k := 5) (n := 311) (by decide) (by decide) ?_
  refine va_putF (D := D) (ci := 1) (v := .ref q28) (ty := .array .int) (C := RX1) (T := TX1) (N := 5) hx hb hts (fun _ h => List.mem_cons_of_mem _ (List.mem_append_right _ h)) tyX1 tyX1_ok nmX1 hown hK.1 hP hD hS 0 rfl rfl 3 (by decide) (hts (.fieldLink RX1 25 "RevisionStores$Store" "changes" "[I") (List.mem_of_getElem? (i := 11) rfl)) (fun _ h9 => h9) rfl hin rfl (by decide +kernel) rfl rfl (Nat.le_of_ble_eq_true rfl) dX1_init_30 (fun H locs hP hD hS => ?_)
  have hP : va_P D vwCl ([(h0, .inr (1, [.ref (u9_6 0), .int (nI 20), .int (nI 0), .ref q28, .null]))] ++ wH ct u9_6 (fun _ => false) (fun _ => 151) (fun _ => none) ++ [(q28, .inl (ct 0, 4, .inl (fun _ => nI 0)))]) H := hP
  have hD : va_D A ([(h0, .inr (1, [.ref (u9_6 0), .int (nI 20), .int (nI 0), .ref q28, .null]))] ++ wH ct u9_6 (fun _ => false) (fun _ => 151) (fun _ => none) ++ [(q28, .inl (ct 0, 4, .inl (fun _ => nI 0)))]) := hD
  refine lv_aload_n hx hb dX1_init_33 rfl (lv_at hl 0 rfl) ?_
  refine lv_bipush (v := nI 9) hx hb dX1_init_34 (by decide) ?_
  refine r_newi hx hb (hts (.arrayClass .int) (List.mem_of_getElem? (i := 10) rfl)) hK hP hD hS hA (fun _ => nI 0) (fun _ => rfl) (by decide) (Nat.le_of_ble_eq_true rfl) (Nat.le_of_ble_eq_true rfl) dX1_init_36 (fun q36 H hP hD hS => ?_)
  have hP : va_P D vwCl ([(h0, .inr (1, [.ref (u9_6 0), .int (nI 20), .int (nI 0), .ref q28, .null]))] ++ wH ct u9_6 (fun _ => false) (fun _ => 151) (fun _ => none) ++ [(q28, .inl (ct 0, 4, .inl (fun _ => nI 0))), (q36, .inl (ct 0, 9, .inl (fun _ => nI 0)))]) H := hP
  have hD : va_D A ([(h0, .inr (1, [.ref (u9_6 0), .int (nI 20), .int (nI 0), .ref q28, .null]))] ++ wH ct u9_6 (fun _ => false) (fun _ => 151) (fun _ => none) ++ [(q28, .inl (ct 0, 4, .inl (fun _ => nI 0))), (q36, .inl (ct 0, 9, .inl (fun _ => nI 0)))]) := hD
  refine W.widen (k := 6) (n := 320) (by decide) (by decide) ?_
  refine va_putF (D := D) (ci := 1) (v := .ref q36) (ty := .array .int) (C := RX1) (T := TX1) (N := 5) hx hb hts (fun _ h => List.mem_cons_of_mem _ (List.mem_append_right _ h)) tyX1 tyX1_ok nmX1 hown hK.1 hP hD hS 0 rfl rfl 4 (by decide) (hts (.fieldLink RX1 29 "RevisionStores$Store" "checkpoints" "[I") (List.mem_of_getElem? (i := 12) rfl)) (fun _ h9 => h9) rfl hin rfl (by decide +kernel) rfl rfl (Nat.le_of_ble_eq_true rfl) dX1_init_38 (fun H locs hP hD hS => ?_)
  have hP : va_P D vwCl ([(h0, .inr (1, [.ref (u9_6 0), .int (nI 20), .int (nI 0), .ref q28, .ref q36]))] ++ wH ct u9_6 (fun _ => false) (fun _ => 151) (fun _ => none) ++ [(q28, .inl (ct 0, 4, .inl (fun _ => nI 0))), (q36, .inl (ct 0, 9, .inl (fun _ => nI 0)))]) H := hP
  have hD : va_D A ([(h0, .inr (1, [.ref (u9_6 0), .int (nI 20), .int (nI 0), .ref q28, .ref q36]))] ++ wH ct u9_6 (fun _ => false) (fun _ => 151) (fun _ => none) ++ [(q28, .inl (ct 0, 4, .inl (fun _ => nI 0))), (q36, .inl (ct 0, 9, .inl (fun _ => nI 0)))]) := hD
  have hP9 := hP.sub (ws' := wS ct (ad3 h0 q28 q36) u9_6 (nI 20) (nI 0) (fun _ => nI 0) (fun _ => nI 0) ++ wH ct u9_6 (fun _ => false) (fun _ => 151) (fun _ => none)) [0, 5, 6, 1, 2, 3, 4] rfl
  have hD9 := hD.sub (ws' := wS ct (ad3 h0 q28 q36) u9_6 (nI 20) (nI 0) (fun _ => nI 0) (fun _ => nI 0) ++ wH ct u9_6 (fun _ => false) (fun _ => 151) (fun _ => none)) [0, 5, 6, 1, 2, 3, 4] (by decide) rfl
  exact W.vret hx hb hr (fun t ht hW => ⟨⟨(ad3 h0 q28 q36, u9_6), rfl, rfl, by rw [ht]; exact hP9, hD9⟩, hS.F ht⟩) hS.2.2 dX1_init_41
