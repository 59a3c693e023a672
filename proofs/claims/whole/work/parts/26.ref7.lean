set_option maxHeartbeats 8000000 in
set_option maxRecDepth 100000 in
theorem cX4_documentOf_ok (l : Launch) (D : va_G) (ct : Nat → ClassId) (g : Nat → Nat) (n : Nat) (dc : Nat → Nat) (pa : Nat → Option Nat) (va : Nat → Int32) (dl : Nat → Bool) (ge : Nat → Nat) (su : Nat → Int32) (mk : Nat → Bool) (dp : Nat → Int32) (sq : Nat → Int32) (tc : Nat → Int32) (kp : Nat → Int32) (la : Int32) (r : Nat) (hn : n ≤ 150) (hrn : r < n) (sz : Nat) : Met l yX4_documentOf wsX4_documentOf ({ frames := 2, cells := 0, slots := 0, locals := 43 } : Room) (wrPc D ct [.ref (g 0), .int (nI r)] (wM ct g n dc pa va dl ge su mk dp sq tc kp la) sz) (wqI D (nI (dc r)) (wM ct g n dc pa va dl ge su mk dp sq tc kp (nI 0)) (va_A (wM ct g n dc pa va dl ge su mk dp sq tc kp la) sz)) 0 0 (va_A (wM ct g n dc pa va dl ge su mk dp sq tc kp la) sz) := by
  refine Met.ofW (cc := cX4_documentOf) (maxL := 2) (ret := (some .int)) (by decide) rfl ?_
  intro p e s m args below meth c s₁ B hml hv
  obtain ⟨rfl, hsz, hP, hK, hD0⟩ := hv
  have hx := B.exec
  have hb := B.bytes
  have hr := B.returns
  have hts := atoms_spec (ws := wsX4_documentOf) B.pre
  have hown : s.vm.findClass RX4 = some m.cls := findClass_of_methodNamed B.named
  have hlocks := B.notSynchronized
  subst hsz
  have hD := hD0.self (sz := s.heap.size)
  generalize hAe : va_A (wM ct g n dc pa va dl ge su mk dp sq tc kp la) s.heap.size = A at hD ⊢
  have hA : ∀ q : Nat, s.heap.size ≤ q → A q := fun q h => by rw [← hAe]; exact Or.inr h
  have hS : va_S A s.heap s.heap [] := va_S.rf
  have hP : va_P D vwCl (wM ct g n dc pa va dl ge su mk dp sq tc kp la) s.heap := hP
  clear hAe hD0
  have hl := lv_entry ([.ref (g 0), .int (nI r)]) (n := 2) (Nat.le_of_ble_eq_true rfl)
  rw [lg_entry_eq]
  generalize (lg_sl ([.ref (g 0), .int (nI r)]) ++ List.replicate (2 - (lg_sl ([.ref (g 0), .int (nI r)])).length) Slot.unset).toArray = ls at hl ⊢
  have hl : lv_has ls 2 [(0, .ref (g 0)), (1, .int (nI r))] := hl
  have hH0 : s.heap.size ≤ s.heap.size := Nat.le_refl _
  refine lv_aload_n hx hb dX4_documentOf_0 rfl (lv_at hl 0 rfl) ?_
  refine lv_aload_n hx hb dX4_documentOf_1 rfl (lv_at hl 0 rfl) ?_
  refine lv_iload_n hx hb dX4_documentOf_2 rfl (lv_at hl 1 rfl) ?_
  refine r_cV (As := [.int (nI r)]) (rest := [.ref (g 0)]) ⟨hx, hb, hml, hown, hts⟩ (cX4_isRevision_ok l D ct g n dc pa va dl ge su mk dp sq tc kp la (nI r) ) (cwV 1 hts gX4_documentOf_X4_isRevision rfl rfl rfl (by decide +kernel) ⟨Nat.le_of_ble_eq_true rfl, Nat.le_of_ble_eq_true rfl⟩) hK (hP.sub (ws' := wM ct g n dc pa va dl ge su mk dp sq tc kp la) [0, 1, 2, 3, 4, 5, 6, 7, 8, 9, 10, 11] rfl) 0 4 rfl rfl rfl hl.1 rfl (Nat.le_of_ble_eq_true rfl) dX4_documentOf_3 ⟨Nat.le_of_ble_eq_true rfl, Nat.le_of_ble_eq_true rfl⟩ ?_
  refine r_top (y := bI true) (congrArg bI (show (inn (nI r) (nI 0) (eP (prd n))) = true from inn_r hrn hn)) ?_
  refine lv_iconst (v := nI 1) hx hb dX4_documentOf_6 (by decide) ?_
  refine lv_iconst (v := nI 1) hx hb dX4_documentOf_7 (by decide) ?_
  refine r_wVi (As := [.int (bI true), .int (bI true), .int (bI true)]) (rest := []) ⟨hx, hb, hml, hown, hts⟩ (cX4_goes_ok l D ct g n dc pa va dl ge su mk dp sq tc kp la true true true  s.heap.size) (cwV 3 hts gX4_documentOf_X4_goes rfl rfl rfl (by decide +kernel) ⟨Nat.le_of_ble_eq_true rfl, Nat.le_of_ble_eq_true rfl⟩) hK hP hD hS hA [0, 1, 2, 3, 4, 5, 6, 7, 8, 9, 10, 11] rfl rfl rfl 0 4 rfl rfl rfl hl.1 rfl (Nat.le_of_ble_eq_true rfl) dX4_documentOf_8 ⟨Nat.le_of_ble_eq_true rfl, Nat.le_of_ble_eq_true rfl⟩ (fun H locs hP hD hS => ?_)
  have hP : va_P D vwCl (wM ct g n dc pa va dl ge su mk dp sq tc kp (gof true true true)) H := hP
  have hD : va_D A (wM ct g n dc pa va dl ge su mk dp sq tc kp (gof true true true)) := hD
  refine r_top (y := bI true) (congrArg bI (show (true && (true && true)) = true from rfl)) ?_
  refine r_if_eqB (x := true) (tgt := 23) hx hb dX4_documentOf_11 (by decide) (fun c11 => by cases c11) (fun c11 => ?_)
  refine lv_aload_n hx hb dX4_documentOf_14 rfl (lv_at hl 0 rfl) ?_
  refine va_get (D := D) (ci := 4) (v := .ref (g 1)) (C := RX4) (T := TX4) (N := 13) hx hb hts (fun _ h => List.mem_cons_of_mem _ (List.mem_append_right _ h)) hown hK.1 hP 0 rfl rfl 0 (by decide) (hts (.fieldLink RX4 7 "RevisionStoresModel" "documents" "[I") (List.mem_of_getElem? (i := 1) rfl)) (fun _ h9 => h9) rfl dX4_documentOf_15 ?_
  refine lv_iload_n hx hb dX4_documentOf_18 rfl (lv_at hl 1 rfl) ?_
  refine r_iald (j := r) (v := nI (dc r)) hx hb hK.1 hP 1 0 rfl rfl (by omega) (by first | decide | omega) rfl dX4_documentOf_19 ?_
  refine lv_goto (tgt := 24) hx hb dX4_documentOf_20 (by decide) ?_
  have e9 : (gof true true true) = (nI 0) := rfl
  have hP := (congrArg (fun z9 => va_P D vwCl (wM ct g n dc pa va dl ge su mk dp sq tc kp z9) H) e9).mp hP
  have hP : va_P D vwCl (wM ct g n dc pa va dl ge su mk dp sq tc kp (nI 0)) H := hP
  exact W.iret hx hb hr (fun t ht hW => ⟨⟨_, (), rfl, rfl, by show va_P D vwCl _ t.heap; rw [ht]; exact hP⟩, hS.F ht⟩) hS.2.2 dX4_documentOf_24
set_option maxHeartbeats 8000000 in
set_option maxRecDepth 100000 in
theorem cX4_documentOf_bad (l : Launch) (D : va_G) (ct : Nat → ClassId) (g : Nat → Nat) (n : Nat) (dc : Nat → Nat) (pa : Nat → Option Nat) (va : Nat → Int32) (dl : Nat → Bool) (ge : Nat → Nat) (su : Nat → Int32) (mk : Nat → Bool) (dp : Nat → Int32) (sq : Nat → Int32) (tc : Nat → Int32) (kp : Nat → Int32) (la : Int32) (p0 : Int32) (hbad : inn p0 (nI 0) (eP (prd n)) = false) (sz : Nat) : Met l yX4_documentOf wsX4_documentOf ({ frames := 2, cells := 0, slots := 0, locals := 43 } : Room) (wrPc D ct [.ref (g 0), .int p0] (wM ct g n dc pa va dl ge su mk dp sq tc kp la) sz) (wqI D (nI 0) (wM ct g n dc pa va dl ge su mk dp sq tc kp (nI 1)) (va_A (wM ct g n dc pa va dl ge su mk dp sq tc kp la) sz)) 0 0 (va_A (wM ct g n dc pa va dl ge su mk dp sq tc kp la) sz) := by
  refine Met.ofW (cc := cX4_documentOf) (maxL := 2) (ret := (some .int)) (by decide) rfl ?_
  intro p e s m args below meth c s₁ B hml hv
  obtain ⟨rfl, hsz, hP, hK, hD0⟩ := hv
  have hx := B.exec
  have hb := B.bytes
  have hr := B.returns
  have hts := atoms_spec (ws := wsX4_documentOf) B.pre
  have hown : s.vm.findClass RX4 = some m.cls := findClass_of_methodNamed B.named
  have hlocks := B.notSynchronized
  subst hsz
  have hD := hD0.self (sz := s.heap.size)
  generalize hAe : va_A (wM ct g n dc pa va dl ge su mk dp sq tc kp la) s.heap.size = A at hD ⊢
  have hA : ∀ q : Nat, s.heap.size ≤ q → A q := fun q h => by rw [← hAe]; exact Or.inr h
  have hS : va_S A s.heap s.heap [] := va_S.rf
  have hP : va_P D vwCl (wM ct g n dc pa va dl ge su mk dp sq tc kp la) s.heap := hP
  clear hAe hD0
  have hl := lv_entry ([.ref (g 0), .int p0]) (n := 2) (Nat.le_of_ble_eq_true rfl)
  rw [lg_entry_eq]
  generalize (lg_sl ([.ref (g 0), .int p0]) ++ List.replicate (2 - (lg_sl ([.ref (g 0), .int p0])).length) Slot.unset).toArray = ls at hl ⊢
  have hl : lv_has ls 2 [(0, .ref (g 0)), (1, .int p0)] := hl
  have hH0 : s.heap.size ≤ s.heap.size := Nat.le_refl _
  refine lv_aload_n hx hb dX4_documentOf_0 rfl (lv_at hl 0 rfl) ?_
  refine lv_aload_n hx hb dX4_documentOf_1 rfl (lv_at hl 0 rfl) ?_
  refine lv_iload_n hx hb dX4_documentOf_2 rfl (lv_at hl 1 rfl) ?_
  refine r_cV (As := [.int p0]) (rest := [.ref (g 0)]) ⟨hx, hb, hml, hown, hts⟩ (cX4_isRevision_ok l D ct g n dc pa va dl ge su mk dp sq tc kp la p0 ) (cwV 1 hts gX4_documentOf_X4_isRevision rfl rfl rfl (by decide +kernel) ⟨Nat.le_of_ble_eq_true rfl, Nat.le_of_ble_eq_true rfl⟩) hK (hP.sub (ws' := wM ct g n dc pa va dl ge su mk dp sq tc kp la) [0, 1, 2, 3, 4, 5, 6, 7, 8, 9, 10, 11] rfl) 0 4 rfl rfl rfl hl.1 rfl (Nat.le_of_ble_eq_true rfl) dX4_documentOf_3 ⟨Nat.le_of_ble_eq_true rfl, Nat.le_of_ble_eq_true rfl⟩ ?_
  refine r_top (y := bI false) (congrArg bI (show (inn p0 (nI 0) (eP (prd n))) = false from hbad)) ?_
  refine lv_iconst (v := nI 1) hx hb dX4_documentOf_6 (by decide) ?_
  refine lv_iconst (v := nI 1) hx hb dX4_documentOf_7 (by decide) ?_
  refine r_wVi (As := [.int (bI false), .int (bI true), .int (bI true)]) (rest := []) ⟨hx, hb, hml, hown, hts⟩ (cX4_goes_ok l D ct g n dc pa va dl ge su mk dp sq tc kp la false true true  s.heap.size) (cwV 3 hts gX4_documentOf_X4_goes rfl rfl rfl (by decide +kernel) ⟨Nat.le_of_ble_eq_true rfl, Nat.le_of_ble_eq_true rfl⟩) hK hP hD hS hA [0, 1, 2, 3, 4, 5, 6, 7, 8, 9, 10, 11] rfl rfl rfl 0 4 rfl rfl rfl hl.1 rfl (Nat.le_of_ble_eq_true rfl) dX4_documentOf_8 ⟨Nat.le_of_ble_eq_true rfl, Nat.le_of_ble_eq_true rfl⟩ (fun H locs hP hD hS => ?_)
  have hP : va_P D vwCl (wM ct g n dc pa va dl ge su mk dp sq tc kp (gof false true true)) H := hP
  have hD : va_D A (wM ct g n dc pa va dl ge su mk dp sq tc kp (gof false true true)) := hD
  refine r_top (y := bI false) (congrArg bI (show (false && (true && true)) = false from rfl)) ?_
  refine r_if_eqB (x := false) (tgt := 23) hx hb dX4_documentOf_11 (by decide) (fun c11 => ?_) (fun c11 => by cases c11)
  refine lv_iconst (v := nI 0) hx hb dX4_documentOf_23 (by decide) ?_
  have e9 : (gof false true true) = (nI 1) := rfl
  have hP := (congrArg (fun z9 => va_P D vwCl (wM ct g n dc pa va dl ge su mk dp sq tc kp z9) H) e9).mp hP
  have hP : va_P D vwCl (wM ct g n dc pa va dl ge su mk dp sq tc kp (nI 1)) H := hP
  exact W.iret hx hb hr (fun t ht hW => ⟨⟨_, (), rfl, rfl, by show va_P D vwCl _ t.heap; rw [ht]; exact hP⟩, hS.F ht⟩) hS.2.2 dX4_documentOf_24
set_option maxHeartbeats 8000000 in
set_option maxRecDepth 100000 in
theorem cX4_parentOf_ok (l : Launch) (D : va_G) (ct : Nat → ClassId) (g : Nat → Nat) (n : Nat) (dc : Nat → Nat) (pa : Nat → Option Nat) (va : Nat → Int32) (dl : Nat → Bool) (ge : Nat → Nat) (su : Nat → Int32) (mk : Nat → Bool) (dp : Nat → Int32) (sq : Nat → Int32) (tc : Nat → Int32) (kp : Nat → Int32) (la : Int32) (r : Nat) (hn : n ≤ 150) (hrn : r < n) (sz : Nat) : Met l yX4_parentOf wsX4_parentOf ({ frames := 2, cells := 0, slots := 0, locals := 43 } : Room) (wrPc D ct [.ref (g 0), .int (nI r)] (wM ct g n dc pa va dl ge su mk dp sq tc kp la) sz) (wqI D (eP (pa r)) (wM ct g n dc pa va dl ge su mk dp sq tc kp (nI 0)) (va_A (wM ct g n dc pa va dl ge su mk dp sq tc kp la) sz)) 0 0 (va_A (wM ct g n dc pa va dl ge su mk dp sq tc kp la) sz) := by
  refine Met.ofW (cc := cX4_parentOf) (maxL := 2) (ret := (some .int)) (by decide) rfl ?_
  intro p e s m args below meth c s₁ B hml hv
  obtain ⟨rfl, hsz, hP, hK, hD0⟩ := hv
  have hx := B.exec
  have hb := B.bytes
  have hr := B.returns
  have hts := atoms_spec (ws := wsX4_parentOf) B.pre
  have hown : s.vm.findClass RX4 = some m.cls := findClass_of_methodNamed B.named
  have hlocks := B.notSynchronized
  subst hsz
  have hD := hD0.self (sz := s.heap.size)
  generalize hAe : va_A (wM ct g n dc pa va dl ge su mk dp sq tc kp la) s.heap.size = A at hD ⊢
  have hA : ∀ q : Nat, s.heap.size ≤ q → A q := fun q h => by rw [← hAe]; exact Or.inr h
  have hS : va_S A s.heap s.heap [] := va_S.rf
  have hP : va_P D vwCl (wM ct g n dc pa va dl ge su mk dp sq tc kp la) s.heap := hP
  clear hAe hD0
  have hl := lv_entry ([.ref (g 0), .int (nI r)]) (n := 2) (Nat.le_of_ble_eq_true rfl)
  rw [lg_entry_eq]
  generalize (lg_sl ([.ref (g 0), .int (nI r)]) ++ List.replicate (2 - (lg_sl ([.ref (g 0), .int (nI r)])).length) Slot.unset).toArray = ls at hl ⊢
  have hl : lv_has ls 2 [(0, .ref (g 0)), (1, .int (nI r))] := hl
  have hH0 : s.heap.size ≤ s.heap.size := Nat.le_refl _
  refine lv_aload_n hx hb dX4_parentOf_0 rfl (lv_at hl 0 rfl) ?_
  refine lv_aload_n hx hb dX4_parentOf_1 rfl (lv_at hl 0 rfl) ?_
  refine lv_iload_n hx hb dX4_parentOf_2 rfl (lv_at hl 1 rfl) ?_
  refine r_cV (As := [.int (nI r)]) (rest := [.ref (g 0)]) ⟨hx, hb, hml, hown, hts⟩ (cX4_isRevision_ok l D ct g n dc pa va dl ge su mk dp sq tc kp la (nI r) ) (cwV 1 hts gX4_parentOf_X4_isRevision rfl rfl rfl (by decide +kernel) ⟨Nat.le_of_ble_eq_true rfl, Nat.le_of_ble_eq_true rfl⟩) hK (hP.sub (ws' := wM ct g n dc pa va dl ge su mk dp sq tc kp la) [0, 1, 2, 3, 4, 5, 6, 7, 8, 9, 10, 11] rfl) 0 4 rfl rfl rfl hl.1 rfl (Nat.le_of_ble_eq_true rfl) dX4_parentOf_3 ⟨Nat.le_of_ble_eq_true rfl, Nat.le_of_ble_eq_true rfl⟩ ?_
  refine r_top (y := bI true) (congrArg bI (show (inn (nI r) (nI 0) (eP (prd n))) = true from inn_r hrn hn)) ?_
  refine lv_iconst (v := nI 1) hx hb dX4_parentOf_6 (by decide) ?_
  refine lv_iconst (v := nI 1) hx hb dX4_parentOf_7 (by decide) ?_
  refine r_wVi (As := [.int (bI true), .int (bI true), .int (bI true)]) (rest := []) ⟨hx, hb, hml, hown, hts⟩ (cX4_goes_ok l D ct g n dc pa va dl ge su mk dp sq tc kp la true true true  s.heap.size) (cwV 3 hts gX4_parentOf_X4_goes rfl rfl rfl (by decide +kernel) ⟨Nat.le_of_ble_eq_true rfl, Nat.le_of_ble_eq_true rfl⟩) hK hP hD hS hA [0, 1, 2, 3, 4, 5, 6, 7, 8, 9, 10, 11] rfl rfl rfl 0 4 rfl rfl rfl hl.1 rfl (Nat.le_of_ble_eq_true rfl) dX4_parentOf_8 ⟨Nat.le_of_ble_eq_true rfl, Nat.le_of_ble_eq_true rfl⟩ (fun H locs hP hD hS => ?_)
  have hP : va_P D vwCl (wM ct g n dc pa va dl ge su mk dp sq tc kp (gof true true true)) H := hP
  have hD : va_D A (wM ct g n dc pa va dl ge su mk dp sq tc kp (gof true true true)) := hD
  refine r_top (y := bI true) (congrArg bI (show (true && (true && true)) = true from rfl)) ?_
  refine r_if_eqB (x := true) (tgt := 23) hx hb dX4_parentOf_11 (by decide) (fun c11 => by cases c11) (fun c11 => ?_)
  refine lv_aload_n hx hb dX4_parentOf_14 rfl (lv_at hl 0 rfl) ?_
  refine va_get (D := D) (ci := 4) (v := .ref (g 2)) (C := RX4) (T := TX4) (N := 13) hx hb hts (fun _ h => List.mem_cons_of_mem _ (List.mem_append_right _ h)) hown hK.1 hP 0 rfl rfl 1 (by decide) (hts (.fieldLink RX4 13 "RevisionStoresModel" "parents" "[I") (List.mem_of_getElem? (i := 1) rfl)) (fun _ h9 => h9) rfl dX4_parentOf_15 ?_
  refine lv_iload_n hx hb dX4_parentOf_18 rfl (lv_at hl 1 rfl) ?_
  refine r_iald (j := r) (v := eP (pa r)) hx hb hK.1 hP 2 0 rfl rfl (by omega) (by first | decide | omega) rfl dX4_parentOf_19 ?_
  refine lv_goto (tgt := 24) hx hb dX4_parentOf_20 (by decide) ?_
  have e9 : (gof true true true) = (nI 0) := rfl
  have hP := (congrArg (fun z9 => va_P D vwCl (wM ct g n dc pa va dl ge su mk dp sq tc kp z9) H) e9).mp hP
  have hP : va_P D vwCl (wM ct g n dc pa va dl ge su mk dp sq tc kp (nI 0)) H := hP
  exact W.iret hx hb hr (fun t ht hW => ⟨⟨_, (), rfl, rfl, by show va_P D vwCl _ t.heap; rw [ht]; exact hP⟩, hS.F ht⟩) hS.2.2 dX4_parentOf_24
set_option maxHeartbeats 8000000 in
set_option maxRecDepth 100000 in
theorem cX4_parentOf_bad (l : Launch) (D : va_G) (ct : Nat → ClassId) (g : Nat → Nat) (n : Nat) (dc : Nat → Nat) (pa : Nat → Option Nat) (va : Nat → Int32) (dl : Nat → Bool) (ge : Nat → Nat) (su : Nat → Int32) (mk : Nat → Bool) (dp : Nat → Int32) (sq : Nat → Int32) (tc : Nat → Int32) (kp : Nat → Int32) (la : Int32) (p0 : Int32) (hbad : inn p0 (nI 0) (eP (prd n)) = false) (sz : Nat) : Met l yX4_parentOf wsX4_parentOf ({ frames := 2, cells := 0, slots := 0, locals := 43 } : Room) (wrPc D ct [.ref (g 0), .int p0] (wM ct g n dc pa va dl ge su mk dp sq tc kp la) sz) (wqI D (nI 0) (wM ct g n dc pa va dl ge su mk dp sq tc kp (nI 1)) (va_A (wM ct g n dc pa va dl ge su mk dp sq tc kp la) sz)) 0 0 (va_A (wM ct g n dc pa va dl ge su mk dp sq tc kp la) sz) := by
  refine Met.ofW (cc := cX4_parentOf) (maxL := 2) (ret := (some .int)) (by decide) rfl ?_
  intro p e s m args below meth c s₁ B hml hv
  obtain ⟨rfl, hsz, hP, hK, hD0⟩ := hv
  have hx := B.exec
  have hb := B.bytes
  have hr := B.returns
  have hts := atoms_spec (ws := wsX4_parentOf) B.pre
  have hown : s.vm.findClass RX4 = some m.cls := findClass_of_methodNamed B.named
  have hlocks := B.notSynchronized
  subst hsz
  have hD := hD0.self (sz := s.heap.size)
  generalize hAe : va_A (wM ct g n dc pa va dl ge su mk dp sq tc kp la) s.heap.size = A at hD ⊢
  have hA : ∀ q : Nat, s.heap.size ≤ q → A q := fun q h => by rw [← hAe]; exact Or.inr h
  have hS : va_S A s.heap s.heap [] := va_S.rf
  have hP : va_P D vwCl (wM ct g n dc pa va dl ge su mk dp sq tc kp la) s.heap := hP
  clear hAe hD0
  have hl := lv_entry ([.ref (g 0), .int p0]) (n := 2) (Nat.le_of_ble_eq_true rfl)
  rw [lg_entry_eq]
  generalize (lg_sl ([.ref (g 0), .int p0]) ++ List.replicate (2 - (lg_sl ([.ref (g 0), .int p0])).length) Slot.unset).toArray = ls at hl ⊢
  have hl : lv_has ls 2 [(0, .ref (g 0)), (1, .int p0)] := hl
  have hH0 : s.heap.size ≤ s.heap.size := Nat.le_refl _
  refine lv_aload_n hx hb dX4_parentOf_0 rfl (lv_at hl 0 rfl) ?_
  refine lv_aload_n hx hb dX4_parentOf_1 rfl (lv_at hl 0 rfl) ?_
  refine lv_iload_n hx hb dX4_parentOf_2 rfl (lv_at hl 1 rfl) ?_
  refine r_cV (As := [.int p0]) (rest := [.ref (g 0)]) ⟨hx, hb, hml, hown, hts⟩ (cX4_isRevision_ok l D ct g n dc pa va dl ge su mk dp sq tc kp la p0 ) (cwV 1 hts gX4_parentOf_X4_isRevision rfl rfl rfl (by decide +kernel) ⟨Nat.le_of_ble_eq_true rfl, Nat.le_of_ble_eq_true rfl⟩) hK (hP.sub (ws' := wM ct g n dc pa va dl ge su mk dp sq tc kp la) [0, 1, 2, 3, 4, 5, 6, 7, 8, 9, 10, 11] rfl) 0 4 rfl rfl rfl hl.1 rfl (Nat.le_of_ble_eq_true rfl) dX4_parentOf_3 ⟨Nat.le_of_ble_eq_true rfl, Nat.le_of_ble_eq_true rfl⟩ ?_
  refine r_top (y := bI false) (congrArg bI (show (inn p0 (nI 0) (eP (prd n))) = false from hbad)) ?_
  refine lv_iconst (v := nI 1) hx hb dX4_parentOf_6 (by decide) ?_
  refine lv_iconst (v := nI 1) hx hb dX4_parentOf_7 (by decide) ?_
  refine r_wVi (As := [.int (bI false), .int (bI true), .int (bI true)]) (rest := []) ⟨hx, hb, hml, hown, hts⟩ (cX4_goes_ok l D ct g n dc pa va dl ge su mk dp sq tc kp la false true true  s.heap.size) (cwV 3 hts gX4_parentOf_X4_goes rfl rfl rfl (by decide +kernel) ⟨Nat.le_of_ble_eq_true rfl, Nat.le_of_ble_eq_true rfl⟩) hK hP hD hS hA [0, 1, 2, 3, 4, 5, 6, 7, 8, 9, 10, 11] rfl rfl rfl 0 4 rfl rfl rfl hl.1 rfl (Nat.le_of_ble_eq_true rfl) dX4_parentOf_8 ⟨Nat.le_of_ble_eq_true rfl, Nat.le_of_ble_eq_true rfl⟩ (fun H locs hP hD hS => ?_)
  have hP : va_P D vwCl (wM ct g n dc pa va dl ge su mk dp sq tc kp (gof false true true)) H := hP
  have hD : va_D A (wM ct g n dc pa va dl ge su mk dp sq tc kp (gof false true true)) := hD
  refine r_top (y := bI false) (congrArg bI (show (false && (true && true)) = false from rfl)) ?_
  refine r_if_eqB (x := false) (tgt := 23) hx hb dX4_parentOf_11 (by decide) (fun c11 => ?_) (fun c11 => by cases c11)
  refine lv_iconst (v := nI 0) hx hb dX4_parentOf_23 (by decide) ?_
  have e9 : (gof false true true) = (nI 1) := rfl
  have hP := (congrArg (fun z9 => va_P D vwCl (wM ct g n dc pa va dl ge su mk dp sq tc kp z9) H) e9).mp hP
  have hP : va_P D vwCl (wM ct g n dc pa va dl ge su mk dp sq tc kp (nI 1)) H := hP
  exact W.iret hx hb hr (fun t ht hW => ⟨⟨_, (), rfl, rfl, by show va_P D vwCl _ t.heap; rw [ht]; exact hP⟩, hS.F ht⟩) hS.2.2 dX4_parentOf_24
set_option maxHeartbeats 8000000 in
set_option maxRecDepth 100000 in
theorem cX4_generation_ok (l : Launch) (D : va_G) (ct : Nat → ClassId) (g : Nat → Nat) (n : Nat) (dc : Nat → Nat) (pa : Nat → Option Nat) (va : Nat → Int32) (dl : Nat → Bool) (ge : Nat → Nat) (su : Nat → Int32) (mk : Nat → Bool) (dp : Nat → Int32) (sq : Nat → Int32) (tc : Nat → Int32) (kp : Nat → Int32) (la : Int32) (r : Nat) (hn : n ≤ 150) (hrn : r < n) (sz : Nat) : Met l yX4_generation wsX4_generation ({ frames := 2, cells := 0, slots := 0, locals := 43 } : Room) (wrPc D ct [.ref (g 0), .int (nI r)] (wM ct g n dc pa va dl ge su mk dp sq tc kp la) sz) (wqI D (nI (ge r)) (wM ct g n dc pa va dl ge su mk dp sq tc kp (nI 0)) (va_A (wM ct g n dc pa va dl ge su mk dp sq tc kp la) sz)) 0 0 (va_A (wM ct g n dc pa va dl ge su mk dp sq tc kp la) sz) := by
  refine Met.ofW (cc := cX4_generation) (maxL := 2) (ret := (some .int)) (by decide) rfl ?_
  intro p e s m args below meth c s₁ B hml hv
  obtain ⟨rfl, hsz, hP, hK, hD0⟩ := hv
  have hx := B.exec
  have hb := B.bytes
  have hr := B.returns
  have hts := atoms_spec (ws := wsX4_generation) B.pre
  have hown : s.vm.findClass RX4 = some m.cls := findClass_of_methodNamed B.named
  have hlocks := B.notSynchronized
  subst hsz
  have hD := hD0.self (sz := s.heap.size)
  generalize hAe : va_A (wM ct g n dc pa va dl ge su mk dp sq tc kp la) s.heap.size = A at hD ⊢
  have hA : ∀ q : Nat, s.heap.size ≤ q → A q := fun q h => by rw [← hAe]; exact Or.inr h
  have hS : va_S A s.heap s.heap [] := va_S.rf
  have hP : va_P D vwCl (wM ct g n dc pa va dl ge su mk dp sq tc kp la) s.heap := hP
  clear hAe hD0
  have hl := lv_entry ([.ref (g 0), .int (nI r)]) (n := 2) (Nat.le_of_ble_eq_true rfl)
  rw [lg_entry_eq]
  generalize (lg_sl ([.ref (g 0), .int (nI r)]) ++ List.replicate (2 - (lg_sl ([.ref (g 0), .int (nI r)])).length) Slot.unset).toArray = ls at hl ⊢
  have hl : lv_has ls 2 [(0, .ref (g 0)), (1, .int (nI r))] := hl
  have hH0 : s.heap.size ≤ s.heap.size := Nat.le_refl _
  refine lv_aload_n hx hb dX4_generation_0 rfl (lv_at hl 0 rfl) ?_
  refine lv_aload_n hx hb dX4_generation_1 rfl (lv_at hl 0 rfl) ?_
  refine lv_iload_n hx hb dX4_generation_2 rfl (lv_at hl 1 rfl) ?_
  refine r_cV (As := [.int (nI r)]) (rest := [.ref (g 0)]) ⟨hx, hb, hml, hown, hts⟩ (cX4_isRevision_ok l D ct g n dc pa va dl ge su mk dp sq tc kp la (nI r) ) (cwV 1 hts gX4_generation_X4_isRevision rfl rfl rfl (by decide +kernel) ⟨Nat.le_of_ble_eq_true rfl, Nat.le_of_ble_eq_true rfl⟩) hK (hP.sub (ws' := wM ct g n dc pa va dl ge su mk dp sq tc kp la) [0, 1, 2, 3, 4, 5, 6, 7, 8, 9, 10, 11] rfl) 0 4 rfl rfl rfl hl.1 rfl (Nat.le_of_ble_eq_true rfl) dX4_generation_3 ⟨Nat.le_of_ble_eq_true rfl, Nat.le_of_ble_eq_true rfl⟩ ?_
  refine r_top (y := bI true) (congrArg bI (show (inn (nI r) (nI 0) (eP (prd n))) = true from inn_r hrn hn)) ?_
  refine lv_iconst (v := nI 1) hx hb dX4_generation_6 (by decide) ?_
  refine lv_iconst (v := nI 1) hx hb dX4_generation_7 (by decide) ?_
  refine r_wVi (As := [.int (bI true), .int (bI true), .int (bI true)]) (rest := []) ⟨hx, hb, hml, hown, hts⟩ (cX4_goes_ok l D ct g n dc pa va dl ge su mk dp sq tc kp la true true true  s.heap.size) (cwV 3 hts gX4_generation_X4_goes rfl rfl rfl (by decide +kernel) ⟨Nat.le_of_ble_eq_true rfl, Nat.le_of_ble_eq_true rfl⟩) hK hP hD hS hA [0, 1, 2, 3, 4, 5, 6, 7, 8, 9, 10, 11] rfl rfl rfl 0 4 rfl rfl rfl hl.1 rfl (Nat.le_of_ble_eq_true rfl) dX4_generation_8 ⟨Nat.le_of_ble_eq_true rfl, Nat.le_of_ble_eq_true rfl⟩ (fun H locs hP hD hS => ?_)
  have hP : va_P D vwCl (wM ct g n dc pa va dl ge su mk dp sq tc kp (gof true true true)) H := hP
  have hD : va_D A (wM ct g n dc pa va dl ge su mk dp sq tc kp (gof true true true)) := hD
  refine r_top (y := bI true) (congrArg bI (show (true && (true && true)) = true from rfl)) ?_
  refine r_if_eqB (x := true) (tgt := 23) hx hb dX4_generation_11 (by decide) (fun c11 => by cases c11) (fun c11 => ?_)
  refine lv_aload_n hx hb dX4_generation_14 rfl (lv_at hl 0 rfl) ?_
  refine va_get (D := D) (ci := 4) (v := .ref (g 5)) (C := RX4) (T := TX4) (N := 13) hx hb hts (fun _ h => List.mem_cons_of_mem _ (List.mem_append_right _ h)) hown hK.1 hP 0 rfl rfl 4 (by decide) (hts (.fieldLink RX4 23 "RevisionStoresModel" "generations" "[I") (List.mem_of_getElem? (i := 1) rfl)) (fun _ h9 => h9) rfl dX4_generation_15 ?_
  refine lv_iload_n hx hb dX4_generation_18 rfl (lv_at hl 1 rfl) ?_
  refine r_iald (j := r) (v := nI (ge r)) hx hb hK.1 hP 5 0 rfl rfl (by omega) (by first | decide | omega) rfl dX4_generation_19 ?_
  refine lv_goto (tgt := 24) hx hb dX4_generation_20 (by decide) ?_
  have e9 : (gof true true true) = (nI 0) := rfl
  have hP := (congrArg (fun z9 => va_P D vwCl (wM ct g n dc pa va dl ge su mk dp sq tc kp z9) H) e9).mp hP
  have hP : va_P D vwCl (wM ct g n dc pa va dl ge su mk dp sq tc kp (nI 0)) H := hP
  exact W.iret hx hb hr (fun t ht hW => ⟨⟨_, (), rfl, rfl, by show va_P D vwCl _ t.heap; rw [ht]; exact hP⟩, hS.F ht⟩) hS.2.2 dX4_generation_24
set_option maxHeartbeats 8000000 in
set_option maxRecDepth 100000 in
theorem cX4_generation_bad (l : Launch) (D : va_G) (ct : Nat → ClassId) (g : Nat → Nat) (n : Nat) (dc : Nat → Nat) (pa : Nat → Option Nat) (va : Nat → Int32) (dl : Nat → Bool) (ge : Nat → Nat) (su : Nat → Int32) (mk : Nat → Bool) (dp : Nat → Int32) (sq : Nat → Int32) (tc : Nat → Int32) (kp : Nat → Int32) (la : Int32) (p0 : Int32) (hbad : inn p0 (nI 0) (eP (prd n)) = false) (sz : Nat) : Met l yX4_generation wsX4_generation ({ frames := 2, cells := 0, slots := 0, locals := 43 } : Room) (wrPc D ct [.ref (g 0), .int p0] (wM ct g n dc pa va dl ge su mk dp sq tc kp la) sz) (wqI D (nI 0) (wM ct g n dc pa va dl ge su mk dp sq tc kp (nI 1)) (va_A (wM ct g n dc pa va dl ge su mk dp sq tc kp la) sz)) 0 0 (va_A (wM ct g n dc pa va dl ge su mk dp sq tc kp la) sz) := by
  refine Met.ofW (cc := cX4_generation) (maxL := 2) (ret := (some .int)) (by decide) rfl ?_
  intro p e s m args below meth c s₁ B hml hv
  obtain ⟨rfl, hsz, hP, hK, hD0⟩ := hv
  have hx := B.exec
  have hb := B.bytes
  have hr := B.returns
  have hts := atoms_spec (ws := wsX4_generation) B.pre
  have hown : s.vm.findClass RX4 = some m.cls := findClass_of_methodNamed B.named
  have hlocks := B.notSynchronized
  subst hsz
  have hD := hD0.self (sz := s.heap.size)
  generalize hAe : va_A (wM ct g n dc pa va dl ge su mk dp sq tc kp la) s.heap.size = A at hD ⊢
  have hA : ∀ q : Nat, s.heap.size ≤ q → A q := fun q h => by rw [← hAe]; exact Or.inr h
  have hS : va_S A s.heap s.heap [] := va_S.rf
  have hP : va_P D vwCl (wM ct g n dc pa va dl ge su mk dp sq tc kp la) s.heap := hP
  clear hAe hD0
  have hl := lv_entry ([.ref (g 0), .int p0]) (n := 2) (Nat.le_of_ble_eq_true rfl)
  rw [lg_entry_eq]
  generalize (lg_sl ([.ref (g 0), .int p0]) ++ List.replicate (2 - (lg_sl ([.ref (g 0), .int p0])).length) Slot.unset).toArray = ls at hl ⊢
  have hl : lv_has ls 2 [(0, .ref (g 0)), (1, .int p0)] := hl
  have hH0 : s.heap.size ≤ s.heap.size := Nat.le_refl _
  refine lv_aload_n hx hb dX4_generation_0 rfl (lv_at hl 0 rfl) ?_
  refine lv_aload_n hx hb dX4_generation_1 rfl (lv_at hl 0 rfl) ?_
  refine lv_iload_n hx hb dX4_generation_2 rfl (lv_at hl 1 rfl) ?_
  refine r_cV (As := [.int p0]) (rest := [.ref (g 0)]) ⟨hx, hb, hml, hown, hts⟩ (cX4_isRevision_ok l D ct g n dc pa va dl ge su mk dp sq tc kp la p0 ) (cwV 1 hts gX4_generation_X4_isRevision rfl rfl rfl (by decide +kernel) ⟨Nat.le_of_ble_eq_true rfl, Nat.le_of_ble_eq_true rfl⟩) hK (hP.sub (ws' := wM ct g n dc pa va dl ge su mk dp sq tc kp la) [0, 1, 2, 3, 4, 5, 6, 7, 8, 9, 10, 11] rfl) 0 4 rfl rfl rfl hl.1 rfl (Nat.le_of_ble_eq_true rfl) dX4_generation_3 ⟨Nat.le_of_ble_eq_true rfl, Nat.le_of_ble_eq_true rfl⟩ ?_
  refine r_top (y := bI false) (congrArg bI (show (inn p0 (nI 0) (eP (prd n))) = false from hbad)) ?_
  refine lv_iconst (v := nI 1) hx hb dX4_generation_6 (by decide) ?_
  refine lv_iconst (v := nI 1) hx hb dX4_generation_7 (by decide) ?_
  refine r_wVi (As := [.int (bI false), .int (bI true), .int (bI true)]) (rest := []) ⟨hx, hb, hml, hown, hts⟩ (cX4_goes_ok l D ct g n dc pa va dl ge su mk dp sq tc kp la false true true  s.heap.size) (cwV 3 hts gX4_generation_X4_goes rfl rfl rfl (by decide +kernel) ⟨Nat.le_of_ble_eq_true rfl, Nat.le_of_ble_eq_true rfl⟩) hK hP hD hS hA [0, 1, 2, 3, 4, 5, 6, 7, 8, 9, 10, 11] rfl rfl rfl 0 4 rfl rfl rfl hl.1 rfl (Nat.le_of_ble_eq_true rfl) dX4_generation_8 ⟨Nat.le_of_ble_eq_true rfl, Nat.le_of_ble_eq_true rfl⟩ (fun H locs hP hD hS => ?_)
  have hP : va_P D vwCl (wM ct g n dc pa va dl ge su mk dp sq tc kp (gof false true true)) H := hP
  have hD : va_D A (wM ct g n dc pa va dl ge su mk dp sq tc kp (gof false true true)) := hD
  refine r_top (y := bI false) (congrArg bI (show (false && (true && true)) = false from rfl)) ?_
  refine r_if_eqB (x := false) (tgt := 23) hx hb dX4_generation_11 (by decide) (fun c11 => ?_) (fun c11 => by cases c11)
  refine lv_iconst (v := nI 0) hx hb dX4_generation_23 (by decide) ?_
  have e9 : (gof false true true) = (nI 1) := rfl
  have hP := (congrArg (fun z9 => va_P D vwCl (wM ct g n dc pa va dl ge su mk dp sq tc kp z9) H) e9).mp hP
  have hP : va_P D vwCl (wM ct g n dc pa va dl ge su mk dp sq tc kp (nI 1)) H := hP
  exact W.iret hx hb hr (fun t ht hW => ⟨⟨_, (), rfl, rfl, by show va_P D vwCl _ t.heap; rw [ht]; exact hP⟩, hS.F ht⟩) hS.2.2 dX4_generation_24
set_option maxHeartbeats 8000000 in
set_option maxRecDepth 100000 in
theorem cX4_sum_ok (l : Launch) (D : va_G) (ct : Nat → ClassId) (g : Nat → Nat) (n : Nat) (dc : Nat → Nat) (pa : Nat → Option Nat) (va : Nat → Int32) (dl : Nat → Bool) (ge : Nat → Nat) (su : Nat → Int32) (mk : Nat → Bool) (dp : Nat → Int32) (sq : Nat → Int32) (tc : Nat → Int32) (kp : Nat → Int32) (la : Int32) (r : Nat) (hn : n ≤ 150) (hrn : r < n) (sz : Nat) : Met l yX4_sum wsX4_sum ({ frames := 2, cells := 0, slots := 0, locals := 43 } : Room) (wrPc D ct [.ref (g 0), .int (nI r)] (wM ct g n dc pa va dl ge su mk dp sq tc kp la) sz) (wqI D (su r) (wM ct g n dc pa va dl ge su mk dp sq tc kp (nI 0)) (va_A (wM ct g n dc pa va dl ge su mk dp sq tc kp la) sz)) 0 0 (va_A (wM ct g n dc pa va dl ge su mk dp sq tc kp la) sz) := by
  refine Met.ofW (cc := cX4_sum) (maxL := 2) (ret := (some .int)) (by decide) rfl ?_
  intro p e s m args below meth c s₁ B hml hv
  obtain ⟨rfl, hsz, hP, hK, hD0⟩ := hv
  have hx := B.exec
  have hb := B.bytes
  have hr := B.returns
  have hts := atoms_spec (ws := wsX4_sum) B.pre
  have hown : s.vm.findClass RX4 = some m.cls := findClass_of_methodNamed B.named
  have hlocks := B.notSynchronized
  subst hsz
  have hD := hD0.self (sz := s.heap.size)
  generalize hAe : va_A (wM ct g n dc pa va dl ge su mk dp sq tc kp la) s.heap.size = A at hD ⊢
  have hA : ∀ q : Nat, s.heap.size ≤ q → A q := fun q h => by rw [← hAe]; exact Or.inr h
  have hS : va_S A s.heap s.heap [] := va_S.rf
  have hP : va_P D vwCl (wM ct g n dc pa va dl ge su mk dp sq tc kp la) s.heap := hP
  clear hAe hD0
  have hl := lv_entry ([.ref (g 0), .int (nI r)]) (n := 2) (Nat.le_of_ble_eq_true rfl)
  rw [lg_entry_eq]
  generalize (lg_sl ([.ref (g 0), .int (nI r)]) ++ List.replicate (2 - (lg_sl ([.ref (g 0), .int (nI r)])).length) Slot.unset).toArray = ls at hl ⊢
  have hl : lv_has ls 2 [(0, .ref (g 0)), (1, .int (nI r))] := hl
  have hH0 : s.heap.size ≤ s.heap.size := Nat.le_refl _
  refine lv_aload_n hx hb dX4_sum_0 rfl (lv_at hl 0 rfl) ?_
  refine lv_aload_n hx hb dX4_sum_1 rfl (lv_at hl 0 rfl) ?_
  refine lv_iload_n hx hb dX4_sum_2 rfl (lv_at hl 1 rfl) ?_
  refine r_cV (As := [.int (nI r)]) (rest := [.ref (g 0)]) ⟨hx, hb, hml, hown, hts⟩ (cX4_isRevision_ok l D ct g n dc pa va dl ge su mk dp sq tc kp la (nI r) ) (cwV 1 hts gX4_sum_X4_isRevision rfl rfl rfl (by decide +kernel) ⟨Nat.le_of_ble_eq_true rfl, Nat.le_of_ble_eq_true rfl⟩) hK (hP.sub (ws' := wM ct g n dc pa va dl ge su mk dp sq tc kp la) [0, 1, 2, 3, 4, 5, 6, 7, 8, 9, 10, 11] rfl) 0 4 rfl rfl rfl hl.1 rfl (Nat.le_of_ble_eq_true rfl) dX4_sum_3 ⟨Nat.le_of_ble_eq_true rfl, Nat.le_of_ble_eq_true rfl⟩ ?_
  refine r_top (y := bI true) (congrArg bI (show (inn (nI r) (nI 0) (eP (prd n))) = true from inn_r hrn hn)) ?_
  refine lv_iconst (v := nI 1) hx hb dX4_sum_6 (by decide) ?_
  refine lv_iconst (v := nI 1) hx hb dX4_sum_7 (by decide) ?_
  refine r_wVi (As := [.int (bI true), .int (bI true), .int (bI true)]) (rest := []) ⟨hx, hb, hml, hown, hts⟩ (cX4_goes_ok l D ct g n dc pa va dl ge su mk dp sq tc kp la true true true  s.heap.size) (cwV 3 hts gX4_sum_X4_goes rfl rfl rfl (by decide +kernel) ⟨Nat.le_of_ble_eq_true rfl, Nat.le_of_ble_eq_true rfl⟩) hK hP hD hS hA [0, 1, 2, 3, 4, 5, 6, 7, 8, 9, 10, 11] rfl rfl rfl 0 4 rfl rfl rfl hl.1 rfl (Nat.le_of_ble_eq_true rfl) dX4_sum_8 ⟨Nat.le_of_ble_eq_true rfl, Nat.le_of_ble_eq_true rfl⟩ (fun H locs hP hD hS => ?_)
  have hP : va_P D vwCl (wM ct g n dc pa va dl ge su mk dp sq tc kp (gof true true true)) H := hP
  have hD : va_D A (wM ct g n dc pa va dl ge su mk dp sq tc kp (gof true true true)) := hD
  refine r_top (y := bI true) (congrArg bI (show (true && (true && true)) = true from rfl)) ?_
  refine r_if_eqB (x := true) (tgt := 23) hx hb dX4_sum_11 (by decide) (fun c11 => by cases c11) (fun c11 => ?_)
  refine lv_aload_n hx hb dX4_sum_14 rfl (lv_at hl 0 rfl) ?_
  refine va_get (D := D) (ci := 4) (v := .ref (g 6)) (C := RX4) (T := TX4) (N := 13) hx hb hts (fun _ h => List.mem_cons_of_mem _ (List.mem_append_right _ h)) hown hK.1 hP 0 rfl rfl 5 (by decide) (hts (.fieldLink RX4 26 "RevisionStoresModel" "sums" "[I") (List.mem_of_getElem? (i := 1) rfl)) (fun _ h9 => h9) rfl dX4_sum_15 ?_
  refine lv_iload_n hx hb dX4_sum_18 rfl (lv_at hl 1 rfl) ?_
  refine r_iald (j := r) (v := su r) hx hb hK.1 hP 6 0 rfl rfl (by omega) (by first | decide | omega) rfl dX4_sum_19 ?_
  refine lv_goto (tgt := 24) hx hb dX4_sum_20 (by decide) ?_
  have e9 : (gof true true true) = (nI 0) := rfl
  have hP := (congrArg (fun z9 => va_P D vwCl (wM ct g n dc pa va dl ge su mk dp sq tc kp z9) H) e9).mp hP
  have hP : va_P D vwCl (wM ct g n dc pa va dl ge su mk dp sq tc kp (nI 0)) H := hP
  exact W.iret hx hb hr (fun t ht hW => ⟨⟨_, (), rfl, rfl, by show va_P D vwCl _ t.heap; rw [ht]; exact hP⟩, hS.F ht⟩) hS.2.2 dX4_sum_24
set_option maxHeartbeats 8000000 in
set_option maxRecDepth 100000 in
theorem cX4_sum_bad (l : Launch) (D : va_G) (ct : Nat → ClassId) (g : Nat → Nat) (n : Nat) (dc : Nat → Nat) (pa : Nat → Option Nat) (va : Nat → Int32) (dl : Nat → Bool) (ge : Nat → Nat) (su : Nat → Int32) (mk : Nat → Bool) (dp : Nat → Int32) (sq : Nat → Int32) (tc : Nat → Int32) (kp : Nat → Int32) (la : Int32) (p0 : Int32) (hbad : inn p0 (nI 0) (eP (prd n)) = false) (sz : Nat) : Met l yX4_sum wsX4_sum ({ frames := 2, cells := 0, slots := 0, locals := 43 } : Room) (wrPc D ct [.ref (g 0), .int p0] (wM ct g n dc pa va dl ge su mk dp sq tc kp la) sz) (wqI D (nI 0) (wM ct g n dc pa va dl ge su mk dp sq tc kp (nI 1)) (va_A (wM ct g n dc pa va dl ge su mk dp sq tc kp la) sz)) 0 0 (va_A (wM ct g n dc pa va dl ge su mk dp sq tc kp la) sz) := by
  refine Met.ofW (cc := cX4_sum) (maxL := 2) (ret := (some .int)) (by decide) rfl ?_
  intro p e s m args below meth c s₁ B hml hv
  obtain ⟨rfl, hsz, hP, hK, hD0⟩ := hv
  have hx := B.exec
  have hb := B.bytes
  have hr := B.returns
  have hts := atoms_spec (ws := wsX4_sum) B.pre
  have hown : s.vm.findClass RX4 = some m.cls := findClass_of_methodNamed B.named
  have hlocks := B.notSynchronized
  subst hsz
  have hD := hD0.self (sz := s.heap.size)
  generalize hAe : va_A (wM ct g n dc pa va dl ge su mk dp sq tc kp la) s.heap.size = A at hD ⊢
  have hA : ∀ q : Nat, s.heap.size ≤ q → A q := fun q h => by rw [← hAe]; exact Or.inr h
  have hS : va_S A s.heap s.heap [] := va_S.rf
  have hP : va_P D vwCl (wM ct g n dc pa va dl ge su mk dp sq tc kp la) s.heap := hP
  clear hAe hD0
  have hl := lv_entry ([.ref (g 0), .int p0]) (n := 2) (Nat.le_of_ble_eq_true rfl)
  rw [lg_entry_eq]
  generalize (lg_sl ([.ref (g 0), .int p0]) ++ List.replicate (2 - (lg_sl ([.ref (g 0), .int p0])).length) Slot.unset).toArray = ls at hl ⊢
  have hl : lv_has ls 2 [(0, .ref (g 0)), (1, .int p0)] := hl
  have hH0 : s.heap.size ≤ s.heap.size := Nat.le_refl _
  refine lv_aload_n hx hb dX4_sum_0 rfl (lv_at hl 0 rfl) ?_
  refine lv_aload_n hx hb dX4_sum_1 rfl (lv_at hl 0 rfl) ?_
  refine lv_iload_n hx hb dX4_sum_2 rfl (lv_at hl 1 rfl) ?_
  refine r_cV (As := [.int p0]) (rest := [.ref (g 0)]) ⟨hx, hb, hml, hown, hts⟩ (cX4_isRevision_ok l D ct g n dc pa va dl ge su mk dp sq tc kp la p0 ) (cwV 1 hts gX4_sum_X4_isRevision rfl rfl rfl (by decide +kernel) ⟨Nat.le_of_ble_eq_true rfl, Nat.le_of_ble_eq_true rfl⟩) hK (hP.sub (ws' := wM ct g n dc pa va dl ge su mk dp sq tc kp la) [0, 1, 2, 3, 4, 5, 6, 7, 8, 9, 10, 11] rfl) 0 4 rfl rfl rfl hl.1 rfl (Nat.le_of_ble_eq_true rfl) dX4_sum_3 ⟨Nat.le_of_ble_eq_true rfl, Nat.le_of_ble_eq_true rfl⟩ ?_
  refine r_top (y := bI false) (congrArg bI (show (inn p0 (nI 0) (eP (prd n))) = false from hbad)) ?_
  refine lv_iconst (v := nI 1) hx hb dX4_sum_6 (by decide) ?_
  refine lv_iconst (v := nI 1) hx hb dX4_sum_7 (by decide) ?_
  refine r_wVi (As := [.int (bI false), .int (bI true), .int (bI true)]) (rest := []) ⟨hx, hb, hml, hown, hts⟩ (cX4_goes_ok l D ct g n dc pa va dl ge su mk dp sq tc kp la false true true  s.heap.size) (cwV 3 hts gX4_sum_X4_goes rfl rfl rfl (by decide +kernel) ⟨Nat.le_of_ble_eq_true rfl, Nat.le_of_ble_eq_true rfl⟩) hK hP hD hS hA [0, 1, 2, 3, 4, 5, 6, 7, 8, 9, 10, 11] rfl rfl rfl 0 4 rfl rfl rfl hl.1 rfl (Nat.le_of_ble_eq_true rfl) dX4_sum_8 ⟨Nat.le_of_ble_eq_true rfl, Nat.le_of_ble_eq_true rfl⟩ (fun H locs hP hD hS => ?_)
  have hP : va_P D vwCl (wM ct g n dc pa va dl ge su mk dp sq tc kp (gof false true true)) H := hP
  have hD : va_D A (wM ct g n dc pa va dl ge su mk dp sq tc kp (gof false true true)) := hD
  refine r_top (y := bI false) (congrArg bI (show (false && (true && true)) = false from rfl)) ?_
  refine r_if_eqB (x := false) (tgt := 23) hx hb dX4_sum_11 (by decide) (fun c11 => ?_) (fun c11 => by cases c11)
  refine lv_iconst (v := nI 0) hx hb dX4_sum_23 (by decide) ?_
  have e9 : (gof false true true) = (nI 1) := rfl
  have hP := (congrArg (fun z9 => va_P D vwCl (wM ct g n dc pa va dl ge su mk dp sq tc kp z9) H) e9).mp hP
  have hP : va_P D vwCl (wM ct g n dc pa va dl ge su mk dp sq tc kp (nI 1)) H := hP
  exact W.iret hx hb hr (fun t ht hW => ⟨⟨_, (), rfl, rfl, by show va_P D vwCl _ t.heap; rw [ht]; exact hP⟩, hS.F ht⟩) hS.2.2 dX4_sum_24
set_option maxHeartbeats 8000000 in
set_option maxRecDepth 100000 in
theorem cX4_valueOf_ok (l : Launch) (D : va_G) (ct : Nat → ClassId) (g : Nat → Nat) (n : Nat) (dc : Nat → Nat) (pa : Nat → Option Nat) (va : Nat → Int32) (dl : Nat → Bool) (ge : Nat → Nat) (su : Nat → Int32) (mk : Nat → Bool) (dp : Nat → Int32) (sq : Nat → Int32) (tc : Nat → Int32) (kp : Nat → Int32) (la : Int32) (r : Nat) (hn : n ≤ 150) (hrn : r < n) (sz : Nat) : Met l yX4_valueOf wsX4_valueOf ({ frames := 2, cells := 0, slots := 0, locals := 43 } : Room) (wrPc D ct [.ref (g 0), .int (nI r)] (wM ct g n dc pa va dl ge su mk dp sq tc kp la) sz) (wqI D (if dl r = true then -1 else va r) (wM ct g n dc pa va dl ge su mk dp sq tc kp (nI 0)) (va_A (wM ct g n dc pa va dl ge su mk dp sq tc kp la) sz)) 0 0 (va_A (wM ct g n dc pa va dl ge su mk dp sq tc kp la) sz) := by
  refine Met.ofW (cc := cX4_valueOf) (maxL := 2) (ret := (some .int)) (by decide) rfl ?_
  intro p e s m args below meth c s₁ B hml hv
  obtain ⟨rfl, hsz, hP, hK, hD0⟩ := hv
  have hx := B.exec
  have hb := B.bytes
  have hr := B.returns
  have hts := atoms_spec (ws := wsX4_valueOf) B.pre
  have hown : s.vm.findClass RX4 = some m.cls := findClass_of_methodNamed B.named
  have hlocks := B.notSynchronized
  subst hsz
  have hD := hD0.self (sz := s.heap.size)
  generalize hAe : va_A (wM ct g n dc pa va dl ge su mk dp sq tc kp la) s.heap.size = A at hD ⊢
  have hA : ∀ q : Nat, s.heap.size ≤ q → A q := fun q h => by rw [← hAe]; exact Or.inr h
  have hS : va_S A s.heap s.heap [] := va_S.rf
  have hP : va_P D vwCl (wM ct g n dc pa va dl ge su mk dp sq tc kp la) s.heap := hP
  clear hAe hD0
  have hl := lv_entry ([.ref (g 0), .int (nI r)]) (n := 2) (Nat.le_of_ble_eq_true rfl)
  rw [lg_entry_eq]
  generalize (lg_sl ([.ref (g 0), .int (nI r)]) ++ List.replicate (2 - (lg_sl ([.ref (g 0), .int (nI r)])).length) Slot.unset).toArray = ls at hl ⊢
  have hl : lv_has ls 2 [(0, .ref (g 0)), (1, .int (nI r))] := hl
  have hH0 : s.heap.size ≤ s.heap.size := Nat.le_refl _
  refine lv_aload_n hx hb dX4_valueOf_0 rfl (lv_at hl 0 rfl) ?_
  refine lv_aload_n hx hb dX4_valueOf_1 rfl (lv_at hl 0 rfl) ?_
  refine lv_iload_n hx hb dX4_valueOf_2 rfl (lv_at hl 1 rfl) ?_
  refine r_cV (As := [.int (nI r)]) (rest := [.ref (g 0)]) ⟨hx, hb, hml, hown, hts⟩ (cX4_isRevision_ok l D ct g n dc pa va dl ge su mk dp sq tc kp la (nI r) ) (cwV 1 hts gX4_valueOf_X4_isRevision rfl rfl rfl (by decide +kernel) ⟨Nat.le_of_ble_eq_true rfl, Nat.le_of_ble_eq_true rfl⟩) hK (hP.sub (ws' := wM ct g n dc pa va dl ge su mk dp sq tc kp la) [0, 1, 2, 3, 4, 5, 6, 7, 8, 9, 10, 11] rfl) 0 4 rfl rfl rfl hl.1 rfl (Nat.le_of_ble_eq_true rfl) dX4_valueOf_3 ⟨Nat.le_of_ble_eq_true rfl, Nat.le_of_ble_eq_true rfl⟩ ?_
  refine r_top (y := bI true) (congrArg bI (show (inn (nI r) (nI 0) (eP (prd n))) = true from inn_r hrn hn)) ?_
  refine lv_iconst (v := nI 1) hx hb dX4_valueOf_6 (by decide) ?_
  refine lv_iconst (v := nI 1) hx hb dX4_valueOf_7 (by decide) ?_
  refine r_wVi (As := [.int (bI true), .int (bI true), .int (bI true)]) (rest := []) ⟨hx, hb, hml, hown, hts⟩ (cX4_goes_ok l D ct g n dc pa va dl ge su mk dp sq tc kp la true true true  s.heap.size) (cwV 3 hts gX4_valueOf_X4_goes rfl rfl rfl (by decide +kernel) ⟨Nat.le_of_ble_eq_true rfl, Nat.le_of_ble_eq_true rfl⟩) hK hP hD hS hA [0, 1, 2, 3, 4, 5, 6, 7, 8, 9, 10, 11] rfl rfl rfl 0 4 rfl rfl rfl hl.1 rfl (Nat.le_of_ble_eq_true rfl) dX4_valueOf_8 ⟨Nat.le_of_ble_eq_true rfl, Nat.le_of_ble_eq_true rfl⟩ (fun H locs hP hD hS => ?_)
  have hP : va_P D vwCl (wM ct g n dc pa va dl ge su mk dp sq tc kp (gof true true true)) H := hP
  have hD : va_D A (wM ct g n dc pa va dl ge su mk dp sq tc kp (gof true true true)) := hD
  refine r_top (y := bI true) (congrArg bI (show (true && (true && true)) = true from rfl)) ?_
  refine r_if_eqB (x := true) (tgt := 36) hx hb dX4_valueOf_11 (by decide) (fun c11 => by cases c11) (fun c11 => ?_)
  refine lv_aload_n hx hb dX4_valueOf_14 rfl (lv_at hl 0 rfl) ?_
  refine va_get (D := D) (ci := 4) (v := .ref (g 4)) (C := RX4) (T := TX4) (N := 13) hx hb hts (fun _ h => List.mem_cons_of_mem _ (List.mem_append_right _ h)) hown hK.1 hP 0 rfl rfl 3 (by decide) (hts (.fieldLink RX4 19 "RevisionStoresModel" "deletions" "[Z") (List.mem_of_getElem? (i := 1) rfl)) (fun _ h9 => h9) rfl dX4_valueOf_15 ?_
  refine lv_iload_n hx hb dX4_valueOf_18 rfl (lv_at hl 1 rfl) ?_
  refine r_zald (j := r) (v := bI (dl r)) hx hb hK.1 hP 4 1 rfl rfl (by omega) (by first | decide | omega) rfl dX4_valueOf_19 ?_
  refine r_if_eqB (x := dl r) (tgt := 27) hx hb dX4_valueOf_20 (by decide) (fun c20 => ?_) (fun c20 => ?_)
  · refine lv_aload_n hx hb dX4_valueOf_27 rfl (lv_at hl 0 rfl) ?_
    refine va_get (D := D) (ci := 4) (v := .ref (g 3)) (C := RX4) (T := TX4) (N := 13) hx hb hts (fun _ h => List.mem_cons_of_mem _ (List.mem_append_right _ h)) hown hK.1 hP 0 rfl rfl 2 (by decide) (hts (.fieldLink RX4 16 "RevisionStoresModel" "values" "[I") (List.mem_of_getElem? (i := 2) rfl)) (fun _ h9 => h9) rfl dX4_valueOf_28 ?_
    refine lv_iload_n hx hb dX4_valueOf_31 rfl (lv_at hl 1 rfl) ?_
    refine r_iald (j := r) (v := va r) hx hb hK.1 hP 3 0 rfl rfl (by omega) (by first | decide | omega) rfl dX4_valueOf_32 ?_
    refine lv_goto (tgt := 37) hx hb dX4_valueOf_33 (by decide) ?_
    refine r_top (y := if dl r = true then -1 else va r) (by simp [eP, c11, c20]) ?_
    have e9 : (gof true true true) = (nI 0) := rfl
    have hP := (congrArg (fun z9 => va_P D vwCl (wM ct g n dc pa va dl ge su mk dp sq tc kp z9) H) e9).mp hP
    have hP : va_P D vwCl (wM ct g n dc pa va dl ge su mk dp sq tc kp (nI 0)) H := hP
    exact W.iret hx hb hr (fun t ht hW => ⟨⟨_, (), rfl, rfl, by show va_P D vwCl _ t.heap; rw [ht]; exact hP⟩, hS.F ht⟩) hS.2.2 dX4_valueOf_37
  · refine lv_iconst (v := -1) hx hb dX4_valueOf_23 (by decide) ?_
    refine lv_goto (tgt := 37) hx hb dX4_valueOf_24 (by decide) ?_
    refine r_top (y := if dl r = true then -1 else va r) (by simp [eP, c11, c20]) ?_
    have e9 : (gof true true true) = (nI 0) := rfl
    have hP := (congrArg (fun z9 => va_P D vwCl (wM ct g n dc pa va dl ge su mk dp sq tc kp z9) H) e9).mp hP
    have hP : va_P D vwCl (wM ct g n dc pa va dl ge su mk dp sq tc kp (nI 0)) H := hP
    exact W.iret hx hb hr (fun t ht hW => ⟨⟨_, (), rfl, rfl, by show va_P D vwCl _ t.heap; rw [ht]; exact hP⟩, hS.F ht⟩) hS.2.2 dX4_valueOf_37
set_option maxHeartbeats 8000000 in
set_option maxRecDepth 100000 in
theorem cX4_valueOf_bad (l : Launch) (D : va_G) (ct : Nat → ClassId) (g : Nat → Nat) (n : Nat) (dc : Nat → Nat) (pa : Nat → Option Nat) (va : Nat → Int32) (dl : Nat → Bool) (ge : Nat → Nat) (su : Nat → Int32) (mk : Nat → Bool) (dp : Nat → Int32) (sq : Nat → Int32) (tc : Nat → Int32) (kp : Nat → Int32) (la : Int32) (p0 : Int32) (hbad : inn p0 (nI 0) (eP (prd n)) = false) (sz : Nat) : Met l yX4_valueOf wsX4_valueOf ({ frames := 2, cells := 0, slots := 0, locals := 43 } : Room) (wrPc D ct [.ref (g 0), .int p0] (wM ct g n dc pa va dl ge su mk dp sq tc kp la) sz) (wqI D (nI 0) (wM ct g n dc pa va dl ge su mk dp sq tc kp (nI 1)) (va_A (wM ct g n dc pa va dl ge su mk dp sq tc kp la) sz)) 0 0 (va_A (wM ct g n dc pa va dl ge su mk dp sq tc kp la) sz) := by
  refine Met.ofW (cc := cX4_valueOf) (maxL := 2) (ret := (some .int)) (by decide) rfl ?_
  intro p e s m args below meth c s₁ B hml hv
  obtain ⟨rfl, hsz, hP, hK, hD0⟩ := hv
  have hx := B.exec
  have hb := B.bytes
  have hr := B.returns
  have hts := atoms_spec (ws := wsX4_valueOf) B.pre
  have hown : s.vm.findClass RX4 = some m.cls := findClass_of_methodNamed B.named
  have hlocks := B.notSynchronized
  subst hsz
  have hD := hD0.self (sz := s.heap.size)
  generalize hAe : va_A (wM ct g n dc pa va dl ge su mk dp sq tc kp la) s.heap.size = A at hD ⊢
  have hA : ∀ q : Nat, s.heap.size ≤ q → A q := fun q h => by rw [← hAe]; exact Or.inr h
  have hS : va_S A s.heap s.heap [] := va_S.rf
  have hP : va_P D vwCl (wM ct g n dc pa va dl ge su mk dp sq tc kp la) s.heap := hP
  clear hAe hD0
  have hl := lv_entry ([.ref (g 0), .int p0]) (n := 2) (Nat.le_of_ble_eq_true rfl)
  rw [lg_entry_eq]
  generalize (lg_sl ([.ref (g 0), .int p0]) ++ List.replicate (2 - (lg_sl ([.ref (g 0), .int p0])).length) Slot.unset).toArray = ls at hl ⊢
  have hl : lv_has ls 2 [(0, .ref (g 0)), (1, .int p0)] := hl
  have hH0 : s.heap.size ≤ s.heap.size := Nat.le_refl _
  refine lv_aload_n hx hb dX4_valueOf_0 rfl (lv_at hl 0 rfl) ?_
  refine lv_aload_n hx hb dX4_valueOf_1 rfl (lv_at hl 0 rfl) ?_
  refine lv_iload_n hx hb dX4_valueOf_2 rfl (lv_at hl 1 rfl) ?_
  refine r_cV (As := [.int p0]) (rest := [.ref (g 0)]) ⟨hx, hb, hml, hown, hts⟩ (cX4_isRevision_ok l D ct g n dc pa va dl ge su mk dp sq tc kp la p0 ) (cwV 1 hts gX4_valueOf_X4_isRevision rfl rfl rfl (by decide +kernel) ⟨Nat.le_of_ble_eq_true rfl, Nat.le_of_ble_eq_true rfl⟩) hK (hP.sub (ws' := wM ct g n dc pa va dl ge su mk dp sq tc kp la) [0, 1, 2, 3, 4, 5, 6, 7, 8, 9, 10, 11] rfl) 0 4 rfl rfl rfl hl.1 rfl (Nat.le_of_ble_eq_true rfl) dX4_valueOf_3 ⟨Nat.le_of_ble_eq_true rfl, Nat.le_of_ble_eq_true rfl⟩ ?_
  refine r_top (y := bI false) (congrArg bI (show (inn p0 (nI 0) (eP (prd n))) = false from hbad)) ?_
  refine lv_iconst (v := nI 1) hx hb dX4_valueOf_6 (by decide) ?_
  refine lv_iconst (v := nI 1) hx hb dX4_valueOf_7 (by decide) ?_
  refine r_wVi (As := [.int (bI false), .int (bI true), .int (bI true)]) (rest := []) ⟨hx, hb, hml, hown, hts⟩ (cX4_goes_ok l D ct g n dc pa va dl ge su mk dp sq tc kp la false true true  s.heap.size) (cwV 3 hts gX4_valueOf_X4_goes rfl rfl rfl (by decide +kernel) ⟨Nat.le_of_ble_eq_true rfl, Nat.le_of_ble_eq_true rfl⟩) hK hP hD hS hA [0, 1, 2, 3, 4, 5, 6, 7, 8, 9, 10, 11] rfl rfl rfl 0 4 rfl rfl rfl hl.1 rfl (Nat.le_of_ble_eq_true rfl) dX4_valueOf_8 ⟨Nat.le_of_ble_eq_true rfl, Nat.le_of_ble_eq_true rfl⟩ (fun H locs hP hD hS => ?_)
  have hP : va_P D vwCl (wM ct g n dc pa va dl ge su mk dp sq tc kp (gof false true true)) H := hP
  have hD : va_D A (wM ct g n dc pa va dl ge su mk dp sq tc kp (gof false true true)) := hD
  refine r_top (y := bI false) (congrArg bI (show (false && (true && true)) = false from rfl)) ?_
  refine r_if_eqB (x := false) (tgt := 36) hx hb dX4_valueOf_11 (by decide) (fun c11 => ?_) (fun c11 => by cases c11)
  refine lv_iconst (v := nI 0) hx hb dX4_valueOf_36 (by decide) ?_
  have e9 : (gof false true true) = (nI 1) := rfl
  have hP := (congrArg (fun z9 => va_P D vwCl (wM ct g n dc pa va dl ge su mk dp sq tc kp z9) H) e9).mp hP
  have hP : va_P D vwCl (wM ct g n dc pa va dl ge su mk dp sq tc kp (nI 1)) H := hP
  exact W.iret hx hb hr (fun t ht hW => ⟨⟨_, (), rfl, rfl, by show va_P D vwCl _ t.heap; rw [ht]; exact hP⟩, hS.F ht⟩) hS.2.2 dX4_valueOf_37
set_option maxHeartbeats 8000000 in
set_option maxRecDepth 100000 in
theorem cX4_revisions_ok (l : Launch) (D : va_G) (ct : Nat → ClassId) (g : Nat → Nat) (n : Nat) (dc : Nat → Nat) (pa : Nat → Option Nat) (va : Nat → Int32) (dl : Nat → Bool) (ge : Nat → Nat) (su : Nat → Int32) (mk : Nat → Bool) (dp : Nat → Int32) (sq : Nat → Int32) (tc : Nat → Int32) (kp : Nat → Int32) (la : Int32)  (sz : Nat) : Met l yX4_revisions wsX4_revisions ({ frames := 0, cells := 0, slots := 0, locals := 0 } : Room) (wrPc D ct [.ref (g 0)] (wM ct g n dc pa va dl ge su mk dp sq tc kp la) sz) (wqI D (nI n) (wM ct g n dc pa va dl ge su mk dp sq tc kp (nI 0)) (va_A (wM ct g n dc pa va dl ge su mk dp sq tc kp la) sz)) 0 0 (va_A (wM ct g n dc pa va dl ge su mk dp sq tc kp la) sz) := by
  refine Met.ofW (cc := cX4_revisions) (maxL := 1) (ret := (some .int)) (by decide) rfl ?_
  intro p e s m args below meth c s₁ B hml hv
  obtain ⟨rfl, hsz, hP, hK, hD0⟩ := hv
  have hx := B.exec
  have hb := B.bytes
  have hr := B.returns
  have hts := atoms_spec (ws := wsX4_revisions) B.pre
  have hown : s.vm.findClass RX4 = some m.cls := findClass_of_methodNamed B.named
  have hlocks := B.notSynchronized
  subst hsz
  have hD := hD0.self (sz := s.heap.size)
  generalize hAe : va_A (wM ct g n dc pa va dl ge su mk dp sq tc kp la) s.heap.size = A at hD ⊢
  have hA : ∀ q : Nat, s.heap.size ≤ q → A q := fun q h => by rw [← hAe]; exact Or.inr h
  have hS : va_S A s.heap s.heap [] := va_S.rf
  have hP : va_P D vwCl (wM ct g n dc pa va dl ge su mk dp sq tc kp la) s.heap := hP
  clear hAe hD0
  have hl := lv_entry ([.ref (g 0)]) (n := 1) (Nat.le_of_ble_eq_true rfl)
  rw [lg_entry_eq]
  generalize (lg_sl ([.ref (g 0)]) ++ List.replicate (1 - (lg_sl ([.ref (g 0)])).length) Slot.unset).toArray = ls at hl ⊢
  have hl : lv_has ls 1 [(0, .ref (g 0))] := hl
  have hH0 : s.heap.size ≤ s.heap.size := Nat.le_refl _
  refine lv_aload_n hx hb dX4_revisions_0 rfl (lv_at hl 0 rfl) ?_
  refine lv_iconst (v := nI 0) hx hb dX4_revisions_1 (by decide) ?_
  refine va_put (D := D) (ci := 4) (v := .int (nI 0)) (ty := .int) (C := RX4) (T := TX4) (N := 13) hx hb hts (fun _ h => List.mem_cons_of_mem _ (List.mem_append_right _ h)) tyX4 tyX4_ok nmX4 hown hK.1 hP hD hS 0 rfl rfl 12 (by decide) (hts (.fieldLink RX4 44 "RevisionStoresModel" "last" "I") (List.mem_of_getElem? (i := 1) rfl)) (fun _ h9 => h9) rfl (by decide +kernel) rfl rfl (Nat.le_of_ble_eq_true rfl) dX4_revisions_2 (fun H locs hP hD hS => ?_)
  have hP : va_P D vwCl (wM ct g n dc pa va dl ge su mk dp sq tc kp (nI 0)) H := hP
  have hD : va_D A (wM ct g n dc pa va dl ge su mk dp sq tc kp (nI 0)) := hD
  refine lv_aload_n hx hb dX4_revisions_5 rfl (lv_at hl 0 rfl) ?_
  refine va_get (D := D) (ci := 4) (v := .int (nI n)) (C := RX4) (T := TX4) (N := 13) hx hb hts (fun _ h => List.mem_cons_of_mem _ (List.mem_append_right _ h)) hown hK.1 hP 0 rfl rfl 6 (by decide) (hts (.fieldLink RX4 52 "RevisionStoresModel" "revisions" "I") (List.mem_of_getElem? (i := 2) rfl)) (fun _ h9 => h9) rfl dX4_revisions_6 ?_
  exact W.iret hx hb hr (fun t ht hW => ⟨⟨_, (), rfl, rfl, by show va_P D vwCl _ t.heap; rw [ht]; exact hP⟩, hS.F ht⟩) hS.2.2 dX4_revisions_9
set_option maxHeartbeats 8000000 in
set_option maxRecDepth 100000 in
theorem cX4_sequence_ok (l : Launch) (D : va_G) (ct : Nat → ClassId) (g : Nat → Nat) (n : Nat) (dc : Nat → Nat) (pa : Nat → Option Nat) (va : Nat → Int32) (dl : Nat → Bool) (ge : Nat → Nat) (su : Nat → Int32) (mk : Nat → Bool) (dp : Nat → Int32) (sq : Nat → Int32) (tc : Nat → Int32) (kp : Nat → Int32) (la : Int32) (i : Nat) (hi : i < 3) (sz : Nat) : Met l yX4_sequence wsX4_sequence ({ frames := 2, cells := 0, slots := 0, locals := 42 } : Room) (wrPc D ct [.ref (g 0), .int (nI i)] (wM ct g n dc pa va dl ge su mk dp sq tc kp la) sz) (wqI D (sq i) (wM ct g n dc pa va dl ge su mk dp sq tc kp (nI 0)) (va_A (wM ct g n dc pa va dl ge su mk dp sq tc kp la) sz)) 0 0 (va_A (wM ct g n dc pa va dl ge su mk dp sq tc kp la) sz) := by
  refine Met.ofW (cc := cX4_sequence) (maxL := 2) (ret := (some .int)) (by decide) rfl ?_
  intro p e s m args below meth c s₁ B hml hv
  obtain ⟨rfl, hsz, hP, hK, hD0⟩ := hv
  have hx := B.exec
  have hb := B.bytes
  have hr := B.returns
  have hts := atoms_spec (ws := wsX4_sequence) B.pre
  have hown : s.vm.findClass RX4 = some m.cls := findClass_of_methodNamed B.named
  have hlocks := B.notSynchronized
  subst hsz
  have hD := hD0.self (sz := s.heap.size)
  generalize hAe : va_A (wM ct g n dc pa va dl ge su mk dp sq tc kp la) s.heap.size = A at hD ⊢
  have hA : ∀ q : Nat, s.heap.size ≤ q → A q := fun q h => by rw [← hAe]; exact Or.inr h
  have hS : va_S A s.heap s.heap [] := va_S.rf
  have hP : va_P D vwCl (wM ct g n dc pa va dl ge su mk dp sq tc kp la) s.heap := hP
  clear hAe hD0
  have hl := lv_entry ([.ref (g 0), .int (nI i)]) (n := 2) (Nat.le_of_ble_eq_true rfl)
  rw [lg_entry_eq]
  generalize (lg_sl ([.ref (g 0), .int (nI i)]) ++ List.replicate (2 - (lg_sl ([.ref (g 0), .int (nI i)])).length) Slot.unset).toArray = ls at hl ⊢
  have hl : lv_has ls 2 [(0, .ref (g 0)), (1, .int (nI i))] := hl
  have hH0 : s.heap.size ≤ s.heap.size := Nat.le_refl _
  refine lv_aload_n hx hb dX4_sequence_0 rfl (lv_at hl 0 rfl) ?_
  refine lv_iload_n hx hb dX4_sequence_1 rfl (lv_at hl 1 rfl) ?_
  refine r_cS (As := [.int (nI i)]) (rest := [.ref (g 0)]) ⟨hx, hb, hml, hown, hts⟩ (cX4_isStore_ok l D ct (nI i) ) (va_cwS 1 hts gX4_sequence_X4_isStore rfl rfl rfl (by decide +kernel) ⟨Nat.le_of_ble_eq_true rfl, Nat.le_of_ble_eq_true rfl⟩) hK va_Pnil rfl hl.1 rfl (Nat.le_of_ble_eq_true rfl) dX4_sequence_2 ⟨Nat.le_of_ble_eq_true rfl, Nat.le_of_ble_eq_true rfl⟩ ?_
  refine r_top (y := bI true) (congrArg bI (show (inn (nI i) (nI 0) (nI 2)) = true from inn_t (by omega) (by decide))) ?_
  refine lv_iconst (v := nI 1) hx hb dX4_sequence_5 (by decide) ?_
  refine lv_iconst (v := nI 1) hx hb dX4_sequence_6 (by decide) ?_
  refine r_wVi (As := [.int (bI true), .int (bI true), .int (bI true)]) (rest := []) ⟨hx, hb, hml, hown, hts⟩ (cX4_goes_ok l D ct g n dc pa va dl ge su mk dp sq tc kp la true true true  s.heap.size) (cwV 3 hts gX4_sequence_X4_goes rfl rfl rfl (by decide +kernel) ⟨Nat.le_of_ble_eq_true rfl, Nat.le_of_ble_eq_true rfl⟩) hK hP hD hS hA [0, 1, 2, 3, 4, 5, 6, 7, 8, 9, 10, 11] rfl rfl rfl 0 4 rfl rfl rfl hl.1 rfl (Nat.le_of_ble_eq_true rfl) dX4_sequence_7 ⟨Nat.le_of_ble_eq_true rfl, Nat.le_of_ble_eq_true rfl⟩ (fun H locs hP hD hS => ?_)
  have hP : va_P D vwCl (wM ct g n dc pa va dl ge su mk dp sq tc kp (gof true true true)) H := hP
  have hD : va_D A (wM ct g n dc pa va dl ge su mk dp sq tc kp (gof true true true)) := hD
  refine r_top (y := bI true) (congrArg bI (show (true && (true && true)) = true from rfl)) ?_
  refine r_if_eqB (x := true) (tgt := 22) hx hb dX4_sequence_10 (by decide) (fun c10 => by cases c10) (fun c10 => ?_)
  refine lv_aload_n hx hb dX4_sequence_13 rfl (lv_at hl 0 rfl) ?_
  refine va_get (D := D) (ci := 4) (v := .ref (g 9)) (C := RX4) (T := TX4) (N := 13) hx hb hts (fun _ h => List.mem_cons_of_mem _ (List.mem_append_right _ h)) hown hK.1 hP 0 rfl rfl 9 (by decide) (hts (.fieldLink RX4 35 "RevisionStoresModel" "sequences" "[I") (List.mem_of_getElem? (i := 1) rfl)) (fun _ h9 => h9) rfl dX4_sequence_14 ?_
  refine lv_iload_n hx hb dX4_sequence_17 rfl (lv_at hl 1 rfl) ?_
  refine r_iald (j := i) (v := sq i) hx hb hK.1 hP 9 0 rfl rfl (by omega) (by first | decide | omega) rfl dX4_sequence_18 ?_
  refine lv_goto (tgt := 23) hx hb dX4_sequence_19 (by decide) ?_
  have e9 : (gof true true true) = (nI 0) := rfl
  have hP := (congrArg (fun z9 => va_P D vwCl (wM ct g n dc pa va dl ge su mk dp sq tc kp z9) H) e9).mp hP
  have hP : va_P D vwCl (wM ct g n dc pa va dl ge su mk dp sq tc kp (nI 0)) H := hP
  exact W.iret hx hb hr (fun t ht hW => ⟨⟨_, (), rfl, rfl, by show va_P D vwCl _ t.heap; rw [ht]; exact hP⟩, hS.F ht⟩) hS.2.2 dX4_sequence_23
set_option maxHeartbeats 8000000 in
set_option maxRecDepth 100000 in
theorem cX4_sequence_bad (l : Launch) (D : va_G) (ct : Nat → ClassId) (g : Nat → Nat) (n : Nat) (dc : Nat → Nat) (pa : Nat → Option Nat) (va : Nat → Int32) (dl : Nat → Bool) (ge : Nat → Nat) (su : Nat → Int32) (mk : Nat → Bool) (dp : Nat → Int32) (sq : Nat → Int32) (tc : Nat → Int32) (kp : Nat → Int32) (la : Int32) (p0 : Int32) (hbad : inn p0 (nI 0) (nI 2) = false) (sz : Nat) : Met l yX4_sequence wsX4_sequence ({ frames := 2, cells := 0, slots := 0, locals := 42 } : Room) (wrPc D ct [.ref (g 0), .int p0] (wM ct g n dc pa va dl ge su mk dp sq tc kp la) sz) (wqI D (nI 0) (wM ct g n dc pa va dl ge su mk dp sq tc kp (nI 1)) (va_A (wM ct g n dc pa va dl ge su mk dp sq tc kp la) sz)) 0 0 (va_A (wM ct g n dc pa va dl ge su mk dp sq tc kp la) sz) := by
  refine Met.ofW (cc := cX4_sequence) (maxL := 2) (ret := (some .int)) (by decide) rfl ?_
  intro p e s m args below meth c s₁ B hml hv
  obtain ⟨rfl, hsz, hP, hK, hD0⟩ := hv
  have hx := B.exec
  have hb := B.bytes
  have hr := B.returns
  have hts := atoms_spec (ws := wsX4_sequence) B.pre
  have hown : s.vm.findClass RX4 = some m.cls := findClass_of_methodNamed B.named
  have hlocks := B.notSynchronized
  subst hsz
  have hD := hD0.self (sz := s.heap.size)
  generalize hAe : va_A (wM ct g n dc pa va dl ge su mk dp sq tc kp la) s.heap.size = A at hD ⊢
  have hA : ∀ q : Nat, s.heap.size ≤ q → A q := fun q h => by rw [← hAe]; exact Or.inr h
  have hS : va_S A s.heap s.heap [] := va_S.rf
  have hP : va_P D vwCl (wM ct g n dc pa va dl ge su mk dp sq tc kp la) s.heap := hP
  clear hAe hD0
  have hl := lv_entry ([.ref (g 0), .int p0]) (n := 2) (Nat.le_of_ble_eq_true rfl)
  rw [lg_entry_eq]
  generalize (lg_sl ([.ref (g 0), .int p0]) ++ List.replicate (2 - (lg_sl ([.ref (g 0), .int p0])).length) Slot.unset).toArray = ls at hl ⊢
  have hl : lv_has ls 2 [(0, .ref (g 0)), (1, .int p0)] := hl
  have hH0 : s.heap.size ≤ s.heap.size := Nat.le_refl _
  refine lv_aload_n hx hb dX4_sequence_0 rfl (lv_at hl 0 rfl) ?_
  refine lv_iload_n hx hb dX4_sequence_1 rfl (lv_at hl 1 rfl) ?_
  refine r_cS (As := [.int p0]) (rest := [.ref (g 0)]) ⟨hx, hb, hml, hown, hts⟩ (cX4_isStore_ok l D ct p0 ) (va_cwS 1 hts gX4_sequence_X4_isStore rfl rfl rfl (by decide +kernel) ⟨Nat.le_of_ble_eq_true rfl, Nat.le_of_ble_eq_true rfl⟩) hK va_Pnil rfl hl.1 rfl (Nat.le_of_ble_eq_true rfl) dX4_sequence_2 ⟨Nat.le_of_ble_eq_true rfl, Nat.le_of_ble_eq_true rfl⟩ ?_
  refine r_top (y := bI false) (congrArg bI (show (inn p0 (nI 0) (nI 2)) = false from hbad)) ?_
  refine lv_iconst (v := nI 1) hx hb dX4_sequence_5 (by decide) ?_
  refine lv_iconst (v := nI 1) hx hb dX4_sequence_6 (by decide) ?_
  refine r_wVi (As := [.int (bI false), .int (bI true), .int (bI true)]) (rest := []) ⟨hx, hb, hml, hown, hts⟩ (cX4_goes_ok l D ct g n dc pa va dl ge su mk dp sq tc kp la false true true  s.heap.size) (cwV 3 hts gX4_sequence_X4_goes rfl rfl rfl (by decide +kernel) ⟨Nat.le_of_ble_eq_true rfl, Nat.le_of_ble_eq_true rfl⟩) hK hP hD hS hA [0, 1, 2, 3, 4, 5, 6, 7, 8, 9, 10, 11] rfl rfl rfl 0 4 rfl rfl rfl hl.1 rfl (Nat.le_of_ble_eq_true rfl) dX4_sequence_7 ⟨Nat.le_of_ble_eq_true rfl, Nat.le_of_ble_eq_true rfl⟩ (fun H locs hP hD hS => ?_)
  have hP : va_P D vwCl (wM ct g n dc pa va dl ge su mk dp sq tc kp (gof false true true)) H := hP
  have hD : va_D A (wM ct g n dc pa va dl ge su mk dp sq tc kp (gof false true true)) := hD
  refine r_top (y := bI false) (congrArg bI (show (false && (true && true)) = false from rfl)) ?_
  refine r_if_eqB (x := false) (tgt := 22) hx hb dX4_sequence_10 (by decide) (fun c10 => ?_) (fun c10 => by cases c10)
  refine lv_iconst (v := nI 0) hx hb dX4_sequence_22 (by decide) ?_
  have e9 : (gof false true true) = (nI 1) := rfl
  have hP := (congrArg (fun z9 => va_P D vwCl (wM ct g n dc pa va dl ge su mk dp sq tc kp z9) H) e9).mp hP
  have hP : va_P D vwCl (wM ct g n dc pa va dl ge su mk dp sq tc kp (nI 1)) H := hP
  exact W.iret hx hb hr (fun t ht hW => ⟨⟨_, (), rfl, rfl, by show va_P D vwCl _ t.heap; rw [ht]; exact hP⟩, hS.F ht⟩) hS.2.2 dX4_sequence_23
set_option maxHeartbeats 8000000 in
set_option maxRecDepth 100000 in
theorem cX4_has_ok (l : Launch) (D : va_G) (ct : Nat → ClassId) (g : Nat → Nat) (n : Nat) (dc : Nat → Nat) (pa : Nat → Option Nat) (va : Nat → Int32) (dl : Nat → Bool) (ge : Nat → Nat) (su : Nat → Int32) (mk : Nat → Bool) (dp : Nat → Int32) (sq : Nat → Int32) (tc : Nat → Int32) (kp : Nat → Int32) (la : Int32) (i : Nat) (r : Nat) (hn : n ≤ 150) (hi : i < 3) (hrn : r < n) (sz : Nat) : Met l yX4_has wsX4_has ({ frames := 2, cells := 0, slots := 0, locals := 43 } : Room) (wrPc D ct [.ref (g 0), .int (nI i), .int (nI r)] (wM ct g n dc pa va dl ge su mk dp sq tc kp la) sz) (wqI D (bI (mk ((150 * i) + r))) (wM ct g n dc pa va dl ge su mk dp sq tc kp (nI 0)) (va_A (wM ct g n dc pa va dl ge su mk dp sq tc kp la) sz)) 0 0 (va_A (wM ct g n dc pa va dl ge su mk dp sq tc kp la) sz) := by
  refine Met.ofW (cc := cX4_has) (maxL := 3) (ret := (some .boolean)) (by decide) rfl ?_
  intro p e s m args below meth c s₁ B hml hv
  obtain ⟨rfl, hsz, hP, hK, hD0⟩ := hv
  have hx := B.exec
  have hb := B.bytes
  have hr := B.returns
  have hts := atoms_spec (ws := wsX4_has) B.pre
  have hown : s.vm.findClass RX4 = some m.cls := findClass_of_methodNamed B.named
  have hlocks := B.notSynchronized
  subst hsz
  have hD := hD0.self (sz := s.heap.size)
  generalize hAe : va_A (wM ct g n dc pa va dl ge su mk dp sq tc kp la) s.heap.size = A at hD ⊢
  have hA : ∀ q : Nat, s.heap.size ≤ q → A q := fun q h => by rw [← hAe]; exact Or.inr h
  have hS : va_S A s.heap s.heap [] := va_S.rf
  have hP : va_P D vwCl (wM ct g n dc pa va dl ge su mk dp sq tc kp la) s.heap := hP
  clear hAe hD0
  have hl := lv_entry ([.ref (g 0), .int (nI i), .int (nI r)]) (n := 3) (Nat.le_of_ble_eq_true rfl)
  rw [lg_entry_eq]
  generalize (lg_sl ([.ref (g 0), .int (nI i), .int (nI r)]) ++ List.replicate (3 - (lg_sl ([.ref (g 0), .int (nI i), .int (nI r)])).length) Slot.unset).toArray = ls at hl ⊢
  have hl : lv_has ls 3 [(0, .ref (g 0)), (1, .int (nI i)), (2, .int (nI r))] := hl
  have hH0 : s.heap.size ≤ s.heap.size := Nat.le_refl _
  refine lv_aload_n hx hb dX4_has_0 rfl (lv_at hl 0 rfl) ?_
  refine lv_iload_n hx hb dX4_has_1 rfl (lv_at hl 1 rfl) ?_
  refine r_cS (As := [.int (nI i)]) (rest := [.ref (g 0)]) ⟨hx, hb, hml, hown, hts⟩ (cX4_isStore_ok l D ct (nI i) ) (va_cwS 1 hts gX4_has_X4_isStore rfl rfl rfl (by decide +kernel) ⟨Nat.le_of_ble_eq_true rfl, Nat.le_of_ble_eq_true rfl⟩) hK va_Pnil rfl hl.1 rfl (Nat.le_of_ble_eq_true rfl) dX4_has_2 ⟨Nat.le_of_ble_eq_true rfl, Nat.le_of_ble_eq_true rfl⟩ ?_
  refine r_top (y := bI true) (congrArg bI (show (inn (nI i) (nI 0) (nI 2)) = true from inn_t (by omega) (by decide))) ?_
  refine r_if_eqB (x := true) (tgt := 20) hx hb dX4_has_5 (by decide) (fun c5 => by cases c5) (fun c5 => ?_)
  refine lv_aload_n hx hb dX4_has_8 rfl (lv_at hl 0 rfl) ?_
  refine lv_iload_n hx hb dX4_has_9 rfl (lv_at hl 2 rfl) ?_
  refine r_cV (As := [.int (nI r)]) (rest := [.ref (g 0)]) ⟨hx, hb, hml, hown, hts⟩ (cX4_isRevision_ok l D ct g n dc pa va dl ge su mk dp sq tc kp la (nI r) ) (cwV 1 hts gX4_has_X4_isRevision rfl rfl rfl (by decide +kernel) ⟨Nat.le_of_ble_eq_true rfl, Nat.le_of_ble_eq_true rfl⟩) hK (hP.sub (ws' := wM ct g n dc pa va dl ge su mk dp sq tc kp la) [0, 1, 2, 3, 4, 5, 6, 7, 8, 9, 10, 11] rfl) 0 4 rfl rfl rfl hl.1 rfl (Nat.le_of_ble_eq_true rfl) dX4_has_10 ⟨Nat.le_of_ble_eq_true rfl, Nat.le_of_ble_eq_true rfl⟩ ?_
  refine r_top (y := bI true) (congrArg bI (show (inn (nI r) (nI 0) (eP (prd n))) = true from inn_r hrn hn)) ?_
  refine r_if_eqB (x := true) (tgt := 20) hx hb dX4_has_13 (by decide) (fun c13 => by cases c13) (fun c13 => ?_)
  refine lv_iconst (v := nI 1) hx hb dX4_has_16 (by decide) ?_
  refine lv_goto (tgt := 21) hx hb dX4_has_17 (by decide) ?_
  refine lv_iconst (v := nI 1) hx hb dX4_has_21 (by decide) ?_
  refine lv_iconst (v := nI 1) hx hb dX4_has_22 (by decide) ?_
  refine r_wVi (As := [.int (bI true), .int (bI true), .int (bI true)]) (rest := []) ⟨hx, hb, hml, hown, hts⟩ (cX4_goes_ok l D ct g n dc pa va dl ge su mk dp sq tc kp la true true true  s.heap.size) (cwV 3 hts gX4_has_X4_goes rfl rfl rfl (by decide +kernel) ⟨Nat.le_of_ble_eq_true rfl, Nat.le_of_ble_eq_true rfl⟩) hK hP hD hS hA [0, 1, 2, 3, 4, 5, 6, 7, 8, 9, 10, 11] rfl rfl rfl 0 4 rfl rfl rfl hl.1 rfl (Nat.le_of_ble_eq_true rfl) dX4_has_23 ⟨Nat.le_of_ble_eq_true rfl, Nat.le_of_ble_eq_true rfl⟩ (fun H locs hP hD hS => ?_)
  have hP : va_P D vwCl (wM ct g n dc pa va dl ge su mk dp sq tc kp (gof true true true)) H := hP
  have hD : va_D A (wM ct g n dc pa va dl ge su mk dp sq tc kp (gof true true true)) := hD
  refine r_top (y := bI true) (congrArg bI (show (true && (true && true)) = true from rfl)) ?_
  refine r_if_eqB (x := true) (tgt := 48) hx hb dX4_has_26 (by decide) (fun c26 => by cases c26) (fun c26 => ?_)
  refine lv_aload_n hx hb dX4_has_29 rfl (lv_at hl 0 rfl) ?_
  refine va_get (D := D) (ci := 4) (v := .ref (g 7)) (C := RX4) (T := TX4) (N := 13) hx hb hts (fun _ h => List.mem_cons_of_mem _ (List.mem_append_right _ h)) hown hK.1 hP 0 rfl rfl 7 (by decide) (hts (.fieldLink RX4 29 "RevisionStoresModel" "marks" "[Z") (List.mem_of_getElem? (i := 1) rfl)) (fun _ h9 => h9) rfl dX4_has_30 ?_
  refine lv_sipush (v := nI 150) hx hb dX4_has_33 (by decide) ?_
  refine lv_iload_n hx hb dX4_has_36 rfl (lv_at hl 1 rfl) ?_
  refine r_imulN hx hb dX4_has_37 ?_
  refine lv_iload_n hx hb dX4_has_38 rfl (lv_at hl 2 rfl) ?_
  refine r_iaddN hx hb dX4_has_39 ?_
  refine r_zald (j := (150 * i) + r) (v := bI (mk ((150 * i) + r))) hx hb hK.1 hP 7 1 rfl rfl (by omega) (by first | decide | omega) rfl dX4_has_40 ?_
  refine r_if_eqB (x := mk ((150 * i) + r)) (tgt := 48) hx hb dX4_has_41 (by decide) (fun c41 => ?_) (fun c41 => ?_)
  · refine lv_iconst (v := nI 0) hx hb dX4_has_48 (by decide) ?_
    refine r_top (y := bI (mk ((150 * i) + r))) (congrArg bI (show false = (mk ((150 * i) + r)) from by simp [c5, c13, c26, c41])) ?_
    have e9 : (gof true true true) = (nI 0) := rfl
    have hP := (congrArg (fun z9 => va_P D vwCl (wM ct g n dc pa va dl ge su mk dp sq tc kp z9) H) e9).mp hP
    have hP : va_P D vwCl (wM ct g n dc pa va dl ge su mk dp sq tc kp (nI 0)) H := hP
    exact W.zret hx hb hr (bI_narrow _) (fun t ht hW => ⟨⟨_, (), rfl, rfl, by show va_P D vwCl _ t.heap; rw [ht]; exact hP⟩, hS.F ht⟩) hS.2.2 dX4_has_49
  · refine lv_iconst (v := nI 1) hx hb dX4_has_44 (by decide) ?_
    refine lv_goto (tgt := 49) hx hb dX4_has_45 (by decide) ?_
    refine r_top (y := bI (mk ((150 * i) + r))) (congrArg bI (show true = (mk ((150 * i) + r)) from by simp [c5, c13, c26, c41])) ?_
    have e9 : (gof true true true) = (nI 0) := rfl
    have hP := (congrArg (fun z9 => va_P D vwCl (wM ct g n dc pa va dl ge su mk dp sq tc kp z9) H) e9).mp hP
    have hP : va_P D vwCl (wM ct g n dc pa va dl ge su mk dp sq tc kp (nI 0)) H := hP
    exact W.zret hx hb hr (bI_narrow _) (fun t ht hW => ⟨⟨_, (), rfl, rfl, by show va_P D vwCl _ t.heap; rw [ht]; exact hP⟩, hS.F ht⟩) hS.2.2 dX4_has_49
set_option maxHeartbeats 8000000 in
set_option maxRecDepth 100000 in
theorem cX4_has_bad (l : Launch) (D : va_G) (ct : Nat → ClassId) (g : Nat → Nat) (n : Nat) (dc : Nat → Nat) (pa : Nat → Option Nat) (va : Nat → Int32) (dl : Nat → Bool) (ge : Nat → Nat) (su : Nat → Int32) (mk : Nat → Bool) (dp : Nat → Int32) (sq : Nat → Int32) (tc : Nat → Int32) (kp : Nat → Int32) (la : Int32) (p0 : Int32) (p1 : Int32) (hbad : (inn p0 (nI 0) (nI 2) && inn p1 (nI 0) (eP (prd n))) = false) (sz : Nat) : Met l yX4_has wsX4_has ({ frames := 2, cells := 0, slots := 0, locals := 43 } : Room) (wrPc D ct [.ref (g 0), .int p0, .int p1] (wM ct g n dc pa va dl ge su mk dp sq tc kp la) sz) (wqI D (bI false) (wM ct g n dc pa va dl ge su mk dp sq tc kp (nI 1)) (va_A (wM ct g n dc pa va dl ge su mk dp sq tc kp la) sz)) 0 0 (va_A (wM ct g n dc pa va dl ge su mk dp sq tc kp la) sz) := by
  refine Met.ofW (cc := cX4_has) (maxL := 3) (ret := (some .boolean)) (by decide) rfl ?_
  intro p e s m args below meth c s₁ B hml hv
  obtain ⟨rfl, hsz, hP, hK, hD0⟩ := hv
  have hx := B.exec
  have hb := B.bytes
  have hr := B.returns
  have hts := atoms_spec (ws := wsX4_has) B.pre
  have hown : s.vm.findClass RX4 = some m.cls := findClass_of_methodNamed B.named
  have hlocks := B.notSynchronized
  subst hsz
  have hD := hD0.self (sz := s.heap.size)
  generalize hAe : va_A (wM ct g n dc pa va dl ge su mk dp sq tc kp la) s.heap.size = A at hD ⊢
  have hA : ∀ q : Nat, s.heap.size ≤ q → A q := fun q h => by rw [← hAe]; exact Or.inr h
  have hS : va_S A s.heap s.heap [] := va_S.rf
  have hP : va_P D vwCl (wM ct g n dc pa va dl ge su mk dp sq tc kp la) s.heap := hP
  clear hAe hD0
  have hl := lv_entry ([.ref (g 0), .int p0, .int p1]) (n := 3) (Nat.le_of_ble_eq_true rfl)
  rw [lg_entry_eq]
  generalize (lg_sl ([.ref (g 0), .int p0, .int p1]) ++ List.replicate (3 - (lg_sl ([.ref (g 0), .int p0, .int p1])).length) Slot.unset).toArray = ls at hl ⊢
  have hl : lv_has ls 3 [(0, .ref (g 0)), (1, .int p0), (2, .int p1)] := hl
  have hH0 : s.heap.size ≤ s.heap.size := Nat.le_refl _
  have jn21 : ∀ (H : Heap) (locs : List Loc) (ls : Array Slot), va_P D vwCl (wM ct g n dc pa va dl ge su mk dp sq tc kp la) H → va_D A (wM ct g n dc pa va dl ge su mk dp sq tc kp la) → va_S A s.heap H locs → lv_has ls 3 [(0, .ref (g 0)), (1, .int p0), (2, .int p1)] → W p l e ({ frames := 2, cells := 0, slots := 0, locals := 43 } : Room) s m ([.ref (g 0), .int p0, .int p1] : List Value).toArray below meth c H locs 0 0 (MQ below (wqI D (bI false) (wM ct g n dc pa va dl ge su mk dp sq tc kp (nI 1)) A) ([.ref (g 0), .int p0, .int p1] : List Value).toArray s 0 0 A) (F0 m 21 ls [.int (bI false), .ref (g 0)]) := by
    intro H locs ls hP hD hS hl
    refine lv_iconst (v := nI 1) hx hb dX4_has_21 (by decide) ?_
    refine lv_iconst (v := nI 1) hx hb dX4_has_22 (by decide) ?_
    refine r_wVi (As := [.int (bI false), .int (bI true), .int (bI true)]) (rest := []) ⟨hx, hb, hml, hown, hts⟩ (cX4_goes_ok l D ct g n dc pa va dl ge su mk dp sq tc kp la false true true  H.size) (cwV 3 hts gX4_has_X4_goes rfl rfl rfl (by decide +kernel) ⟨Nat.le_of_ble_eq_true rfl, Nat.le_of_ble_eq_true rfl⟩) hK hP hD hS hA [0, 1, 2, 3, 4, 5, 6, 7, 8, 9, 10, 11] rfl rfl rfl 0 4 rfl rfl rfl hl.1 rfl (Nat.le_of_ble_eq_true rfl) dX4_has_23 ⟨Nat.le_of_ble_eq_true rfl, Nat.le_of_ble_eq_true rfl⟩ (fun H locs hP hD hS => ?_)
    have hP : va_P D vwCl (wM ct g n dc pa va dl ge su mk dp sq tc kp (gof false true true)) H := hP
    have hD : va_D A (wM ct g n dc pa va dl ge su mk dp sq tc kp (gof false true true)) := hD
    refine r_top (y := bI false) (congrArg bI (show (false && (true && true)) = false from rfl)) ?_
    refine r_if_eqB (x := false) (tgt := 48) hx hb dX4_has_26 (by decide) (fun c26 => ?_) (fun c26 => by cases c26)
    refine lv_iconst (v := nI 0) hx hb dX4_has_48 (by decide) ?_
    refine r_top (y := bI false) (congrArg bI (show false = false from rfl)) ?_
    have e9 : (gof false true true) = (nI 1) := rfl
    have hP := (congrArg (fun z9 => va_P D vwCl (wM ct g n dc pa va dl ge su mk dp sq tc kp z9) H) e9).mp hP
    have hP : va_P D vwCl (wM ct g n dc pa va dl ge su mk dp sq tc kp (nI 1)) H := hP
    exact W.zret hx hb hr (bI_narrow _) (fun t ht hW => ⟨⟨_, (), rfl, rfl, by show va_P D vwCl _ t.heap; rw [ht]; exact hP⟩, hS.F ht⟩) hS.2.2 dX4_has_49
  refine lv_aload_n hx hb dX4_has_0 rfl (lv_at hl 0 rfl) ?_
  refine lv_iload_n hx hb dX4_has_1 rfl (lv_at hl 1 rfl) ?_
  refine r_cS (As := [.int p0]) (rest := [.ref (g 0)]) ⟨hx, hb, hml, hown, hts⟩ (cX4_isStore_ok l D ct p0 ) (va_cwS 1 hts gX4_has_X4_isStore rfl rfl rfl (by decide +kernel) ⟨Nat.le_of_ble_eq_true rfl, Nat.le_of_ble_eq_true rfl⟩) hK va_Pnil rfl hl.1 rfl (Nat.le_of_ble_eq_true rfl) dX4_has_2 ⟨Nat.le_of_ble_eq_true rfl, Nat.le_of_ble_eq_true rfl⟩ ?_
  refine r_if_eqB (x := inn p0 (nI 0) (nI 2)) (tgt := 20) hx hb dX4_has_5 (by decide) (fun c5 => ?_) (fun c5 => ?_)
  · refine lv_iconst (v := nI 0) hx hb dX4_has_20 (by decide) ?_
    refine r_top (y := bI false) (congrArg bI (show false = false from by first | rfl | (exfalso; simp [c5] at hbad))) ?_
    exact jn21 _ _ ls hP hD hS (lv_sub hl [0, 1, 2] rfl)
  · refine lv_aload_n hx hb dX4_has_8 rfl (lv_at hl 0 rfl) ?_
    refine lv_iload_n hx hb dX4_has_9 rfl (lv_at hl 2 rfl) ?_
    refine r_cV (As := [.int p1]) (rest := [.ref (g 0)]) ⟨hx, hb, hml, hown, hts⟩ (cX4_isRevision_ok l D ct g n dc pa va dl ge su mk dp sq tc kp la p1 ) (cwV 1 hts gX4_has_X4_isRevision rfl rfl rfl (by decide +kernel) ⟨Nat.le_of_ble_eq_true rfl, Nat.le_of_ble_eq_true rfl⟩) hK (hP.sub (ws' := wM ct g n dc pa va dl ge su mk dp sq tc kp la) [0, 1, 2, 3, 4, 5, 6, 7, 8, 9, 10, 11] rfl) 0 4 rfl rfl rfl hl.1 rfl (Nat.le_of_ble_eq_true rfl) dX4_has_10 ⟨Nat.le_of_ble_eq_true rfl, Nat.le_of_ble_eq_true rfl⟩ ?_
    refine r_if_eqB (x := inn p1 (nI 0) (eP (prd n))) (tgt := 20) hx hb dX4_has_13 (by decide) (fun c13 => ?_) (fun c13 => ?_)
    · refine lv_iconst (v := nI 0) hx hb dX4_has_20 (by decide) ?_
      refine r_top (y := bI false) (congrArg bI (show false = false from by first | rfl | (exfalso; simp [c5, c13] at hbad))) ?_
      exact jn21 _ _ ls hP hD hS (lv_sub hl [0, 1, 2] rfl)
    · refine lv_iconst (v := nI 1) hx hb dX4_has_16 (by decide) ?_
      refine lv_goto (tgt := 21) hx hb dX4_has_17 (by decide) ?_
      refine r_top (y := bI false) (congrArg bI (show true = false from by first | rfl | (exfalso; simp [c5, c13] at hbad))) ?_
      exact jn21 _ _ ls hP hD hS (lv_sub hl [0, 1, 2] rfl)
set_option maxHeartbeats 8000000 in
set_option maxRecDepth 100000 in
theorem cX4_isLeaf_ok (l : Launch) (D : va_G) (ct : Nat → ClassId) (g : Nat → Nat) (n : Nat) (dc : Nat → Nat) (pa : Nat → Option Nat) (va : Nat → Int32) (dl : Nat → Bool) (ge : Nat → Nat) (su : Nat → Int32) (mk : Nat → Bool) (dp : Nat → Int32) (sq : Nat → Int32) (tc : Nat → Int32) (kp : Nat → Int32) (la : Int32) (i : Nat) (r : Nat) (hn : n ≤ 150) (hTp : ∀ k j, k < n → pa k = some j → j < k) (hi : i < 3) (hrn : r < n) (sz : Nat) : Met l yX4_isLeaf wsX4_isLeaf ({ frames := 3, cells := 0, slots := 0, locals := 69 } : Room) (wrPc D ct [.ref (g 0), .int (nI i), .int (nI r)] (wM ct g n dc pa va dl ge su mk dp sq tc kp la) sz) (wqI D (bI (lef pa mk i n r)) (wM ct g n dc pa va dl ge su mk dp sq tc kp (nI 0)) (va_A (wM ct g n dc pa va dl ge su mk dp sq tc kp la) sz)) 0 0 (va_A (wM ct g n dc pa va dl ge su mk dp sq tc kp la) sz) := by
  refine Met.ofW (cc := cX4_isLeaf) (maxL := 3) (ret := (some .boolean)) (by decide) rfl ?_
  intro p e s m args below meth c s₁ B hml hv
  obtain ⟨rfl, hsz, hP, hK, hD0⟩ := hv
  have hx := B.exec
  have hb := B.bytes
  have hr := B.returns
  have hts := atoms_spec (ws := wsX4_isLeaf) B.pre
  have hown : s.vm.findClass RX4 = some m.cls := findClass_of_methodNamed B.named
  have hlocks := B.notSynchronized
  subst hsz
  have hD := hD0.self (sz := s.heap.size)
  generalize hAe : va_A (wM ct g n dc pa va dl ge su mk dp sq tc kp la) s.heap.size = A at hD ⊢
  have hA : ∀ q : Nat, s.heap.size ≤ q → A q := fun q h => by rw [← hAe]; exact Or.inr h
  have hS : va_S A s.heap s.heap [] := va_S.rf
  have hP : va_P D vwCl (wM ct g n dc pa va dl ge su mk dp sq tc kp la) s.heap := hP
  clear hAe hD0
  have hl := lv_entry ([.ref (g 0), .int (nI i), .int (nI r)]) (n := 3) (Nat.le_of_ble_eq_true rfl)
  rw [lg_entry_eq]
  generalize (lg_sl ([.ref (g 0), .int (nI i), .int (nI r)]) ++ List.replicate (3 - (lg_sl ([.ref (g 0), .int (nI i), .int (nI r)])).length) Slot.unset).toArray = ls at hl ⊢
  have hl : lv_has ls 3 [(0, .ref (g 0)), (1, .int (nI i)), (2, .int (nI r))] := hl
  have hH0 : s.heap.size ≤ s.heap.size := Nat.le_refl _
  refine lv_aload_n hx hb dX4_isLeaf_0 rfl (lv_at hl 0 rfl) ?_
  refine lv_iload_n hx hb dX4_isLeaf_1 rfl (lv_at hl 1 rfl) ?_
  refine r_cS (As := [.int (nI i)]) (rest := [.ref (g 0)]) ⟨hx, hb, hml, hown, hts⟩ (cX4_isStore_ok l D ct (nI i) ) (va_cwS 1 hts gX4_isLeaf_X4_isStore rfl rfl rfl (by decide +kernel) ⟨Nat.le_of_ble_eq_true rfl, Nat.le_of_ble_eq_true rfl⟩) hK va_Pnil rfl hl.1 rfl (Nat.le_of_ble_eq_true rfl) dX4_isLeaf_2 ⟨Nat.le_of_ble_eq_true rfl, Nat.le_of_ble_eq_true rfl⟩ ?_
  refine r_top (y := bI true) (congrArg bI (show (inn (nI i) (nI 0) (nI 2)) = true from inn_t (by omega) (by decide))) ?_
  refine r_if_eqB (x := true) (tgt := 20) hx hb dX4_isLeaf_5 (by decide) (fun c5 => by cases c5) (fun c5 => ?_)
  refine lv_aload_n hx hb dX4_isLeaf_8 rfl (lv_at hl 0 rfl) ?_
  refine lv_iload_n hx hb dX4_isLeaf_9 rfl (lv_at hl 2 rfl) ?_
  refine r_cV (As := [.int (nI r)]) (rest := [.ref (g 0)]) ⟨hx, hb, hml, hown, hts⟩ (cX4_isRevision_ok l D ct g n dc pa va dl ge su mk dp sq tc kp la (nI r) ) (cwV 1 hts gX4_isLeaf_X4_isRevision rfl rfl rfl (by decide +kernel) ⟨Nat.le_of_ble_eq_true rfl, Nat.le_of_ble_eq_true rfl⟩) hK (hP.sub (ws' := wM ct g n dc pa va dl ge su mk dp sq tc kp la) [0, 1, 2, 3, 4, 5, 6, 7, 8, 9, 10, 11] rfl) 0 4 rfl rfl rfl hl.1 rfl (Nat.le_of_ble_eq_true rfl) dX4_isLeaf_10 ⟨Nat.le_of_ble_eq_true rfl, Nat.le_of_ble_eq_true rfl⟩ ?_
  refine r_top (y := bI true) (congrArg bI (show (inn (nI r) (nI 0) (eP (prd n))) = true from inn_r hrn hn)) ?_
  refine r_if_eqB (x := true) (tgt := 20) hx hb dX4_isLeaf_13 (by decide) (fun c13 => by cases c13) (fun c13 => ?_)
  refine lv_iconst (v := nI 1) hx hb dX4_isLeaf_16 (by decide) ?_
  refine lv_goto (tgt := 21) hx hb dX4_isLeaf_17 (by decide) ?_
  refine lv_iconst (v := nI 1) hx hb dX4_isLeaf_21 (by decide) ?_
  refine lv_iconst (v := nI 1) hx hb dX4_isLeaf_22 (by decide) ?_
  refine r_wVi (As := [.int (bI true), .int (bI true), .int (bI true)]) (rest := []) ⟨hx, hb, hml, hown, hts⟩ (cX4_goes_ok l D ct g n dc pa va dl ge su mk dp sq tc kp la true true true  s.heap.size) (cwV 3 hts gX4_isLeaf_X4_goes rfl rfl rfl (by decide +kernel) ⟨Nat.le_of_ble_eq_true rfl, Nat.le_of_ble_eq_true rfl⟩) hK hP hD hS hA [0, 1, 2, 3, 4, 5, 6, 7, 8, 9, 10, 11] rfl rfl rfl 0 4 rfl rfl rfl hl.1 rfl (Nat.le_of_ble_eq_true rfl) dX4_isLeaf_23 ⟨Nat.le_of_ble_eq_true rfl, Nat.le_of_ble_eq_true rfl⟩ (fun H locs hP hD hS => ?_)
  have hP : va_P D vwCl (wM ct g n dc pa va dl ge su mk dp sq tc kp (gof true true true)) H := hP
  have hD : va_D A (wM ct g n dc pa va dl ge su mk dp sq tc kp (gof true true true)) := hD
  refine r_top (y := bI true) (congrArg bI (show (true && (true && true)) = true from rfl)) ?_
  refine r_if_eqB (x := true) (tgt := 42) hx hb dX4_isLeaf_26 (by decide) (fun c26 => by cases c26) (fun c26 => ?_)
  refine lv_aload_n hx hb dX4_isLeaf_29 rfl (lv_at hl 0 rfl) ?_
  refine lv_iload_n hx hb dX4_isLeaf_30 rfl (lv_at hl 1 rfl) ?_
  refine lv_iload_n hx hb dX4_isLeaf_31 rfl (lv_at hl 2 rfl) ?_
  refine r_cV (As := [.int (nI i), .int (nI r)]) (rest := []) ⟨hx, hb, hml, hown, hts⟩ (cX4_leaf_ok l D ct g n dc pa va dl ge su mk dp sq tc kp (gof true true true) i r (by first | assumption | omega) (by first | assumption | omega) (by first | assumption | omega) (by first | assumption | omega)) (cwV 2 hts gX4_isLeaf_X4_leaf rfl rfl rfl (by decide +kernel) ⟨Nat.le_of_ble_eq_true rfl, Nat.le_of_ble_eq_true rfl⟩) hK (hP.sub (ws' := wM ct g n dc pa va dl ge su mk dp sq tc kp (gof true true true)) [0, 1, 2, 3, 4, 5, 6, 7, 8, 9, 10, 11] rfl) 0 4 rfl rfl rfl hl.1 rfl (Nat.le_of_ble_eq_true rfl) dX4_isLeaf_32 ⟨Nat.le_of_ble_eq_true rfl, Nat.le_of_ble_eq_true rfl⟩ ?_
  refine r_if_eqB (x := lef pa mk i n r) (tgt := 42) hx hb dX4_isLeaf_35 (by decide) (fun c35 => ?_) (fun c35 => ?_)
  · refine lv_iconst (v := nI 0) hx hb dX4_isLeaf_42 (by decide) ?_
    refine r_top (y := bI (lef pa mk i n r)) (congrArg bI (show false = (lef pa mk i n r) from by simp [c5, c13, c26, c35])) ?_
    have e9 : (gof true true true) = (nI 0) := rfl
    have hP := (congrArg (fun z9 => va_P D vwCl (wM ct g n dc pa va dl ge su mk dp sq tc kp z9) H) e9).mp hP
    have hP : va_P D vwCl (wM ct g n dc pa va dl ge su mk dp sq tc kp (nI 0)) H := hP
    exact W.zret hx hb hr (bI_narrow _) (fun t ht hW => ⟨⟨_, (), rfl, rfl, by show va_P D vwCl _ t.heap; rw [ht]; exact hP⟩, hS.F ht⟩) hS.2.2 dX4_isLeaf_43
  · refine lv_iconst (v := nI 1) hx hb dX4_isLeaf_38 (by decide) ?_
    refine lv_goto (tgt := 43) hx hb dX4_isLeaf_39 (by decide) ?_
    refine r_top (y := bI (lef pa mk i n r)) (congrArg bI (show true = (lef pa mk i n r) from by simp [c5, c13, c26, c35])) ?_
    have e9 : (gof true true true) = (nI 0) := rfl
    have hP := (congrArg (fun z9 => va_P D vwCl (wM ct g n dc pa va dl ge su mk dp sq tc kp z9) H) e9).mp hP
    have hP : va_P D vwCl (wM ct g n dc pa va dl ge su mk dp sq tc kp (nI 0)) H := hP
    exact W.zret hx hb hr (bI_narrow _) (fun t ht hW => ⟨⟨_, (), rfl, rfl, by show va_P D vwCl _ t.heap; rw [ht]; exact hP⟩, hS.F ht⟩) hS.2.2 dX4_isLeaf_43
set_option maxHeartbeats 8000000 in
set_option maxRecDepth 100000 in
theorem cX4_isLeaf_bad (l : Launch) (D : va_G) (ct : Nat → ClassId) (g : Nat → Nat) (n : Nat) (dc : Nat → Nat) (pa : Nat → Option Nat) (va : Nat → Int32) (dl : Nat → Bool) (ge : Nat → Nat) (su : Nat → Int32) (mk : Nat → Bool) (dp : Nat → Int32) (sq : Nat → Int32) (tc : Nat → Int32) (kp : Nat → Int32) (la : Int32) (p0 : Int32) (p1 : Int32) (hbad : (inn p0 (nI 0) (nI 2) && inn p1 (nI 0) (eP (prd n))) = false) (sz : Nat) : Met l yX4_isLeaf wsX4_isLeaf ({ frames := 3, cells := 0, slots := 0, locals := 69 } : Room) (wrPc D ct [.ref (g 0), .int p0, .int p1] (wM ct g n dc pa va dl ge su mk dp sq tc kp la) sz) (wqI D (bI false) (wM ct g n dc pa va dl ge su mk dp sq tc kp (nI 1)) (va_A (wM ct g n dc pa va dl ge su mk dp sq tc kp la) sz)) 0 0 (va_A (wM ct g n dc pa va dl ge su mk dp sq tc kp la) sz) := by
  refine Met.ofW (cc := cX4_isLeaf) (maxL := 3) (ret := (some .boolean)) (by decide) rfl ?_
  intro p e s m args below meth c s₁ B hml hv
  obtain ⟨rfl, hsz, hP, hK, hD0⟩ := hv
  have hx := B.exec
  have hb := B.bytes
  have hr := B.returns
  have hts := atoms_spec (ws := wsX4_isLeaf) B.pre
  have hown : s.vm.findClass RX4 = some m.cls := findClass_of_methodNamed B.named
  have hlocks := B.notSynchronized
  subst hsz
  have hD := hD0.self (sz := s.heap.size)
  generalize hAe : va_A (wM ct g n dc pa va dl ge su mk dp sq tc kp la) s.heap.size = A at hD ⊢
  have hA : ∀ q : Nat, s.heap.size ≤ q → A q := fun q h => by rw [← hAe]; exact Or.inr h
  have hS : va_S A s.heap s.heap [] := va_S.rf
  have hP : va_P D vwCl (wM ct g n dc pa va dl ge su mk dp sq tc kp la) s.heap := hP
  clear hAe hD0
  have hl := lv_entry ([.ref (g 0), .int p0, .int p1]) (n := 3) (Nat.le_of_ble_eq_true rfl)
  rw [lg_entry_eq]
  generalize (lg_sl ([.ref (g 0), .int p0, .int p1]) ++ List.replicate (3 - (lg_sl ([.ref (g 0), .int p0, .int p1])).length) Slot.unset).toArray = ls at hl ⊢
  have hl : lv_has ls 3 [(0, .ref (g 0)), (1, .int p0), (2, .int p1)] := hl
  have hH0 : s.heap.size ≤ s.heap.size := Nat.le_refl _
  have jn21 : ∀ (H : Heap) (locs : List Loc) (ls : Array Slot), va_P D vwCl (wM ct g n dc pa va dl ge su mk dp sq tc kp la) H → va_D A (wM ct g n dc pa va dl ge su mk dp sq tc kp la) → va_S A s.heap H locs → lv_has ls 3 [(0, .ref (g 0)), (1, .int p0), (2, .int p1)] → W p l e ({ frames := 3, cells := 0, slots := 0, locals := 69 } : Room) s m ([.ref (g 0), .int p0, .int p1] : List Value).toArray below meth c H locs 0 0 (MQ below (wqI D (bI false) (wM ct g n dc pa va dl ge su mk dp sq tc kp (nI 1)) A) ([.ref (g 0), .int p0, .int p1] : List Value).toArray s 0 0 A) (F0 m 21 ls [.int (bI false), .ref (g 0)]) := by
    intro H locs ls hP hD hS hl
    refine lv_iconst (v := nI 1) hx hb dX4_isLeaf_21 (by decide) ?_
    refine lv_iconst (v := nI 1) hx hb dX4_isLeaf_22 (by decide) ?_
    refine r_wVi (As := [.int (bI false), .int (bI true), .int (bI true)]) (rest := []) ⟨hx, hb, hml, hown, hts⟩ (cX4_goes_ok l D ct g n dc pa va dl ge su mk dp sq tc kp la false true true  H.size) (cwV 3 hts gX4_isLeaf_X4_goes rfl rfl rfl (by decide +kernel) ⟨Nat.le_of_ble_eq_true rfl, Nat.le_of_ble_eq_true rfl⟩) hK hP hD hS hA [0, 1, 2, 3, 4, 5, 6, 7, 8, 9, 10, 11] rfl rfl rfl 0 4 rfl rfl rfl hl.1 rfl (Nat.le_of_ble_eq_true rfl) dX4_isLeaf_23 ⟨Nat.le_of_ble_eq_true rfl, Nat.le_of_ble_eq_true rfl⟩ (fun H locs hP hD hS => ?_)
    have hP : va_P D vwCl (wM ct g n dc pa va dl ge su mk dp sq tc kp (gof false true true)) H := hP
    have hD : va_D A (wM ct g n dc pa va dl ge su mk dp sq tc kp (gof false true true)) := hD
    refine r_top (y := bI false) (congrArg bI (show (false && (true && true)) = false from rfl)) ?_
    refine r_if_eqB (x := false) (tgt := 42) hx hb dX4_isLeaf_26 (by decide) (fun c26 => ?_) (fun c26 => by cases c26)
    refine lv_iconst (v := nI 0) hx hb dX4_isLeaf_42 (by decide) ?_
    refine r_top (y := bI false) (congrArg bI (show false = false from rfl)) ?_
    have e9 : (gof false true true) = (nI 1) := rfl
    have hP := (congrArg (fun z9 => va_P D vwCl (wM ct g n dc pa va dl ge su mk dp sq tc kp z9) H) e9).mp hP
    have hP : va_P D vwCl (wM ct g n dc pa va dl ge su mk dp sq tc kp (nI 1)) H := hP
    exact W.zret hx hb hr (bI_narrow _) (fun t ht hW => ⟨⟨_, (), rfl, rfl, by show va_P D vwCl _ t.heap; rw [ht]; exact hP⟩, hS.F ht⟩) hS.2.2 dX4_isLeaf_43
  refine lv_aload_n hx hb dX4_isLeaf_0 rfl (lv_at hl 0 rfl) ?_
  refine lv_iload_n hx hb dX4_isLeaf_1 rfl (lv_at hl 1 rfl) ?_
  refine r_cS (As := [.int p0]) (rest := [.ref (g 0)]) ⟨hx, hb, hml, hown, hts⟩ (cX4_isStore_ok l D ct p0 ) (va_cwS 1 hts gX4_isLeaf_X4_isStore rfl rfl rfl (by decide +kernel) ⟨Nat.le_of_ble_eq_true rfl, Nat.le_of_ble_eq_true rfl⟩) hK va_Pnil rfl hl.1 rfl (Nat.le_of_ble_eq_true rfl) dX4_isLeaf_2 ⟨Nat.le_of_ble_eq_true rfl, Nat.le_of_ble_eq_true rfl⟩ ?_
  refine r_if_eqB (x := inn p0 (nI 0) (nI 2)) (tgt := 20) hx hb dX4_isLeaf_5 (by decide) (fun c5 => ?_) (fun c5 => ?_)
  · refine lv_iconst (v := nI 0) hx hb dX4_isLeaf_20 (by decide) ?_
    refine r_top (y := bI false) (congrArg bI (show false = false from by first | rfl | (exfalso; simp [c5] at hbad))) ?_
    exact jn21 _ _ ls hP hD hS (lv_sub hl [0, 1, 2] rfl)
  · refine lv_aload_n hx hb dX4_isLeaf_8 rfl (lv_at hl 0 rfl) ?_
    refine lv_iload_n hx hb dX4_isLeaf_9 rfl (lv_at hl 2 rfl) ?_
    refine r_cV (As := [.int p1]) (rest := [.ref (g 0)]) ⟨hx, hb, hml, hown, hts⟩ (cX4_isRevision_ok l D ct g n dc pa va dl ge su mk dp sq tc kp la p1 ) (cwV 1 hts gX4_isLeaf_X4_isRevision rfl rfl rfl (by decide +kernel) ⟨Nat.le_of_ble_eq_true rfl, Nat.le_of_ble_eq_true rfl⟩) hK (hP.sub (ws' := wM ct g n dc pa va dl ge su mk dp sq tc kp la) [0, 1, 2, 3, 4, 5, 6, 7, 8, 9, 10, 11] rfl) 0 4 rfl rfl rfl hl.1 rfl (Nat.le_of_ble_eq_true rfl) dX4_isLeaf_10 ⟨Nat.le_of_ble_eq_true rfl, Nat.le_of_ble_eq_true rfl⟩ ?_
    refine r_if_eqB (x := inn p1 (nI 0) (eP (prd n))) (tgt := 20) hx hb dX4_isLeaf_13 (by decide) (fun c13 => ?_) (fun c13 => ?_)
    · refine lv_iconst (v := nI 0) hx hb dX4_isLeaf_20 (by decide) ?_
      refine r_top (y := bI false) (congrArg bI (show false = false from by first | rfl | (exfalso; simp [c5, c13] at hbad))) ?_
      exact jn21 _ _ ls hP hD hS (lv_sub hl [0, 1, 2] rfl)
    · refine lv_iconst (v := nI 1) hx hb dX4_isLeaf_16 (by decide) ?_
      refine lv_goto (tgt := 21) hx hb dX4_isLeaf_17 (by decide) ?_
      refine r_top (y := bI false) (congrArg bI (show true = false from by first | rfl | (exfalso; simp [c5, c13] at hbad))) ?_
      exact jn21 _ _ ls hP hD hS (lv_sub hl [0, 1, 2] rfl)
set_option maxHeartbeats 8000000 in
set_option maxRecDepth 100000 in
theorem cX4_size_ok (l : Launch) (D : va_G) (ct : Nat → ClassId) (g : Nat → Nat) (n : Nat) (dc : Nat → Nat) (pa : Nat → Option Nat) (va : Nat → Int32) (dl : Nat → Bool) (ge : Nat → Nat) (su : Nat → Int32) (mk : Nat → Bool) (dp : Nat → Int32) (sq : Nat → Int32) (tc : Nat → Int32) (kp : Nat → Int32) (la : Int32) (i : Nat) (hn : n ≤ 150) (hi : i < 3) (sz : Nat) : Met l yX4_size wsX4_size ({ frames := 2, cells := 0, slots := 0, locals := 42 } : Room) (wrPc D ct [.ref (g 0), .int (nI i)] (wM ct g n dc pa va dl ge su mk dp sq tc kp la) sz) (wqI D (nI (fct (mrw mk i) n)) (wM ct g n dc pa va dl ge su mk dp sq tc kp (nI 0)) (va_A (wM ct g n dc pa va dl ge su mk dp sq tc kp la) sz)) 0 0 (va_A (wM ct g n dc pa va dl ge su mk dp sq tc kp la) sz) := by
  refine Met.ofW (cc := cX4_size) (maxL := 5) (ret := (some .int)) (by decide) rfl ?_
  intro p e s m args below meth c s₁ B hml hv
  obtain ⟨rfl, hsz, hP, hK, hD0⟩ := hv
  have hx := B.exec
  have hb := B.bytes
  have hr := B.returns
  have hts := atoms_spec (ws := wsX4_size) B.pre
  have hown : s.vm.findClass RX4 = some m.cls := findClass_of_methodNamed B.named
  have hlocks := B.notSynchronized
  subst hsz
  have hD := hD0.self (sz := s.heap.size)
  generalize hAe : va_A (wM ct g n dc pa va dl ge su mk dp sq tc kp la) s.heap.size = A at hD ⊢
  have hA : ∀ q : Nat, s.heap.size ≤ q → A q := fun q h => by rw [← hAe]; exact Or.inr h
  have hS : va_S A s.heap s.heap [] := va_S.rf
  have hP : va_P D vwCl (wM ct g n dc pa va dl ge su mk dp sq tc kp la) s.heap := hP
  clear hAe hD0
  have hl := lv_entry ([.ref (g 0), .int (nI i)]) (n := 5) (Nat.le_of_ble_eq_true rfl)
  rw [lg_entry_eq]
  generalize (lg_sl ([.ref (g 0), .int (nI i)]) ++ List.replicate (5 - (lg_sl ([.ref (g 0), .int (nI i)])).length) Slot.unset).toArray = ls at hl ⊢
  have hl : lv_has ls 5 [(0, .ref (g 0)), (1, .int (nI i))] := hl
  have hH0 : s.heap.size ≤ s.heap.size := Nat.le_refl _
  refine lv_iconst (v := nI 0) hx hb dX4_size_0 (by decide) ?_
  refine lv_istore_n (lv' := [(2, .int (nI 0)), (0, .ref (g 0)), (1, .int (nI i))]) hx hb dX4_size_1 rfl hl (by decide) rfl (fun ls hl => ?_)
  refine lv_aload_n hx hb dX4_size_2 rfl (lv_at hl 1 rfl) ?_
  refine lv_iload_n hx hb dX4_size_3 rfl (lv_at hl 2 rfl) ?_
  refine r_cS (As := [.int (nI i)]) (rest := [.ref (g 0)]) ⟨hx, hb, hml, hown, hts⟩ (cX4_isStore_ok l D ct (nI i) ) (va_cwS 1 hts gX4_size_X4_isStore rfl rfl rfl (by decide +kernel) ⟨Nat.le_of_ble_eq_true rfl, Nat.le_of_ble_eq_true rfl⟩) hK va_Pnil rfl hl.1 rfl (Nat.le_of_ble_eq_true rfl) dX4_size_4 ⟨Nat.le_of_ble_eq_true rfl, Nat.le_of_ble_eq_true rfl⟩ ?_
  refine r_top (y := bI true) (congrArg bI (show (inn (nI i) (nI 0) (nI 2)) = true from inn_t (by omega) (by decide))) ?_
  refine lv_iconst (v := nI 1) hx hb dX4_size_7 (by decide) ?_
  refine lv_iconst (v := nI 1) hx hb dX4_size_8 (by decide) ?_
  refine r_wVi (As := [.int (bI true), .int (bI true), .int (bI true)]) (rest := []) ⟨hx, hb, hml, hown, hts⟩ (cX4_goes_ok l D ct g n dc pa va dl ge su mk dp sq tc kp la true true true  s.heap.size) (cwV 3 hts gX4_size_X4_goes rfl rfl rfl (by decide +kernel) ⟨Nat.le_of_ble_eq_true rfl, Nat.le_of_ble_eq_true rfl⟩) hK hP hD hS hA [0, 1, 2, 3, 4, 5, 6, 7, 8, 9, 10, 11] rfl rfl rfl 0 4 rfl rfl rfl hl.1 rfl (Nat.le_of_ble_eq_true rfl) dX4_size_9 ⟨Nat.le_of_ble_eq_true rfl, Nat.le_of_ble_eq_true rfl⟩ (fun H locs hP hD hS => ?_)
  have hP : va_P D vwCl (wM ct g n dc pa va dl ge su mk dp sq tc kp (gof true true true)) H := hP
  have hD : va_D A (wM ct g n dc pa va dl ge su mk dp sq tc kp (gof true true true)) := hD
  refine r_top (y := bI true) (congrArg bI (show (true && (true && true)) = true from rfl)) ?_
  refine lv_istore_n (lv' := [(3, .int (bI true)), (2, .int (nI 0)), (0, .ref (g 0)), (1, .int (nI i))]) hx hb dX4_size_12 rfl hl (by decide) rfl (fun ls hl => ?_)
  refine lv_iconst (v := nI 0) hx hb dX4_size_13 (by decide) ?_
  refine lv_istore (lv' := [(4, .int (nI 0)), (3, .int (bI true)), (2, .int (nI 0)), (0, .ref (g 0)), (1, .int (nI i))]) hx hb dX4_size_14 hl (by decide) rfl (fun ls hl => ?_)
  have key16 : ∀ (d16 : Nat) (k : Nat) (hk : k ≤ n), n - k < d16 → ∀ (H : Heap) (locs : List Loc) (ls : Array Slot), va_P D vwCl (wM ct g n dc pa va dl ge su mk dp sq tc kp (gof true true true)) H → va_D A (wM ct g n dc pa va dl ge su mk dp sq tc kp (gof true true true)) → va_S A s.heap H locs → lv_has ls 5 [(4, .int (nI k)), (3, .int (bI true)), (2, .int (nI (fct (mrw mk i) k))), (0, .ref (g 0)), (1, .int (nI i))] → W p l e ({ frames := 2, cells := 0, slots := 0, locals := 42 } : Room) s m ([.ref (g 0), .int (nI i)] : List Value).toArray below meth c H locs 0 0 (MQ below (wqI D (nI (fct (mrw mk i) n)) (wM ct g n dc pa va dl ge su mk dp sq tc kp (nI 0)) A) ([.ref (g 0), .int (nI i)] : List Value).toArray s 0 0 A) (F0 m 16 ls []) := by
    intro d16
    induction d16 with
    | zero => intro k hk h9; exact absurd h9 (Nat.not_lt_zero _)
    | succ d16 ih16 =>
      intro k hk hm16 H locs ls hP hD hS hl
      refine lv_iload hx hb dX4_size_16 (lv_at hl 0 rfl) ?_
      refine lv_aload_n hx hb dX4_size_18 rfl (lv_at hl 3 rfl) ?_
      refine va_get (D := D) (ci := 4) (v := .int (nI n)) (C := RX4) (T := TX4) (N := 13) hx hb hts (fun _ h => List.mem_cons_of_mem _ (List.mem_append_right _ h)) hown hK.1 hP 0 rfl rfl 6 (by decide) (hts (.fieldLink RX4 52 "RevisionStoresModel" "revisions" "I") (List.mem_of_getElem? (i := 1) rfl)) (fun _ h9 => h9) rfl dX4_size_19 ?_
      refine r_icmp_geN hx hb (x := k) (y := n) (by first | omega | decide) (by first | omega | decide) (tgt := 59) dX4_size_22 (by decide) (fun c22 => ?_) (fun c22 => ?_)
      · refine lv_iload_n hx hb dX4_size_59 rfl (lv_at hl 2 rfl) ?_
        refine r_top (y := nI (fct (mrw mk i) n)) (congrArg nI (show (fct (mrw mk i) k) = (fct (mrw mk i) n) from by rw [show k = n by omega])) ?_
        have e9 : (gof true true true) = (nI 0) := rfl
        have hP := (congrArg (fun z9 => va_P D vwCl (wM ct g n dc pa va dl ge su mk dp sq tc kp z9) H) e9).mp hP
        have hP : va_P D vwCl (wM ct g n dc pa va dl ge su mk dp sq tc kp (nI 0)) H := hP
        exact W.iret hx hb hr (fun t ht hW => ⟨⟨_, (), rfl, rfl, by show va_P D vwCl _ t.heap; rw [ht]; exact hP⟩, hS.F ht⟩) hS.2.2 dX4_size_60
      · refine lv_iload_n hx hb dX4_size_25 rfl (lv_at hl 1 rfl) ?_
        refine r_if_eqB (x := true) (tgt := 59) hx hb dX4_size_26 (by decide) (fun c26 => by cases c26) (fun c26 => ?_)
        refine lv_iload_n hx hb dX4_size_29 rfl (lv_at hl 2 rfl) ?_
        refine lv_aload_n hx hb dX4_size_30 rfl (lv_at hl 3 rfl) ?_
        refine va_get (D := D) (ci := 4) (v := .ref (g 7)) (C := RX4) (T := TX4) (N := 13) hx hb hts (fun _ h => List.mem_cons_of_mem _ (List.mem_append_right _ h)) hown hK.1 hP 0 rfl rfl 7 (by decide) (hts (.fieldLink RX4 29 "RevisionStoresModel" "marks" "[Z") (List.mem_of_getElem? (i := 2) rfl)) (fun _ h9 => h9) rfl dX4_size_31 ?_
        refine lv_sipush (v := nI 150) hx hb dX4_size_34 (by decide) ?_
        refine lv_iload_n hx hb dX4_size_37 rfl (lv_at hl 4 rfl) ?_
        refine r_imulN hx hb dX4_size_38 ?_
        refine lv_iload hx hb dX4_size_39 (lv_at hl 0 rfl) ?_
        refine r_iaddN hx hb dX4_size_41 ?_
        refine r_zald (j := (150 * i) + k) (v := bI (mk ((150 * i) + k))) hx hb hK.1 hP 7 1 rfl rfl (by omega) (by first | decide | omega) rfl dX4_size_42 ?_
        refine r_if_eqB (x := mk ((150 * i) + k)) (tgt := 50) hx hb dX4_size_43 (by decide) (fun c43 => ?_) (fun c43 => ?_)
        · refine lv_iconst (v := nI 0) hx hb dX4_size_50 (by decide) ?_
          refine r_iaddN hx hb dX4_size_51 ?_
          refine lv_istore_n (lv' := [(2, .int (nI ((fct (mrw mk i) k) + 0))), (4, .int (nI k)), (3, .int (bI true)), (0, .ref (g 0)), (1, .int (nI i))]) hx hb dX4_size_52 rfl hl (by decide) rfl (fun ls hl => ?_)
          refine lv_iinc (v := nI (k + 1)) (lv' := [(4, .int (nI (k + 1))), (2, .int (nI ((fct (mrw mk i) k) + 0))), (3, .int (bI true)), (0, .ref (g 0)), (1, .int (nI i))]) hx hb dX4_size_53 hl (k := 1) rfl (nI_1 _) (by decide) rfl (fun ls hl => ?_)
          refine lv_goto (tgt := 16) hx hb dX4_size_56 (by decide) ?_
          have hl := lv_re (f := fun z9 => [(4, .int (nI (k + 1))), (2, .int z9), (3, .int (bI true)), (0, .ref (g 0)), (1, .int (nI i))]) hl (show nI ((fct (mrw mk i) k) + 0) = nI (fct (mrw mk i) (k + 1)) from congrArg nI (show ((fct (mrw mk i) k) + 0) = (fct (mrw mk i) (k + 1)) from by simp [fct, mrw, c22, c26, c43]))
          exact ih16 (k + 1) (by first | assumption | omega) (by omega) H locs ls hP hD hS (lv_sub hl [0, 2, 1, 3, 4] rfl)
        · refine lv_iconst (v := nI 1) hx hb dX4_size_46 (by decide) ?_
          refine lv_goto (tgt := 51) hx hb dX4_size_47 (by decide) ?_
          refine r_iaddN hx hb dX4_size_51 ?_
          refine lv_istore_n (lv' := [(2, .int (nI ((fct (mrw mk i) k) + 1))), (4, .int (nI k)), (3, .int (bI true)), (0, .ref (g 0)), (1, .int (nI i))]) hx hb dX4_size_52 rfl hl (by decide) rfl (fun ls hl => ?_)
          refine lv_iinc (v := nI (k + 1)) (lv' := [(4, .int (nI (k + 1))), (2, .int (nI ((fct (mrw mk i) k) + 1))), (3, .int (bI true)), (0, .ref (g 0)), (1, .int (nI i))]) hx hb dX4_size_53 hl (k := 1) rfl (nI_1 _) (by decide) rfl (fun ls hl => ?_)
          refine lv_goto (tgt := 16) hx hb dX4_size_56 (by decide) ?_
          have hl := lv_re (f := fun z9 => [(4, .int (nI (k + 1))), (2, .int z9), (3, .int (bI true)), (0, .ref (g 0)), (1, .int (nI i))]) hl (show nI ((fct (mrw mk i) k) + 1) = nI (fct (mrw mk i) (k + 1)) from congrArg nI (show ((fct (mrw mk i) k) + 1) = (fct (mrw mk i) (k + 1)) from by simp [fct, mrw, c22, c26, c43]))
          exact ih16 (k + 1) (by first | assumption | omega) (by omega) H locs ls hP hD hS (lv_sub hl [0, 2, 1, 3, 4] rfl)
  have hl := lv_re (f := fun z9 => [(4, .int (nI 0)), (3, .int (bI true)), (2, .int z9), (0, .ref (g 0)), (1, .int (nI i))]) hl (show nI 0 = nI (fct (mrw mk i) 0) from congrArg nI (show 0 = (fct (mrw mk i) 0) from rfl))
  exact key16 ((n - 0) + 1) 0 (by first | assumption | omega) (Nat.lt_succ_self _) H locs ls hP hD hS (lv_sub hl [0, 1, 2, 3, 4] rfl)
set_option maxHeartbeats 8000000 in
set_option maxRecDepth 100000 in
theorem cX4_size_bad (l : Launch) (D : va_G) (ct : Nat → ClassId) (g : Nat → Nat) (n : Nat) (dc : Nat → Nat) (pa : Nat → Option Nat) (va : Nat → Int32) (dl : Nat → Bool) (ge : Nat → Nat) (su : Nat → Int32) (mk : Nat → Bool) (dp : Nat → Int32) (sq : Nat → Int32) (tc : Nat → Int32) (kp : Nat → Int32) (la : Int32) (p0 : Int32) (hn : n ≤ 150) (hbad : inn p0 (nI 0) (nI 2) = false) (sz : Nat) : Met l yX4_size wsX4_size ({ frames := 2, cells := 0, slots := 0, locals := 42 } : Room) (wrPc D ct [.ref (g 0), .int p0] (wM ct g n dc pa va dl ge su mk dp sq tc kp la) sz) (wqI D (nI 0) (wM ct g n dc pa va dl ge su mk dp sq tc kp (nI 1)) (va_A (wM ct g n dc pa va dl ge su mk dp sq tc kp la) sz)) 0 0 (va_A (wM ct g n dc pa va dl ge su mk dp sq tc kp la) sz) := by
  refine Met.ofW (cc := cX4_size) (maxL := 5) (ret := (some .int)) (by decide) rfl ?_
  intro p e s m args below meth c s₁ B hml hv
  obtain ⟨rfl, hsz, hP, hK, hD0⟩ := hv
  have hx := B.exec
  have hb := B.bytes
  have hr := B.returns
  have hts := atoms_spec (ws := wsX4_size) B.pre
  have hown : s.vm.findClass RX4 = some m.cls := findClass_of_methodNamed B.named
  have hlocks := B.notSynchronized
  subst hsz
  have hD := hD0.self (sz := s.heap.size)
  generalize hAe : va_A (wM ct g n dc pa va dl ge su mk dp sq tc kp la) s.heap.size = A at hD ⊢
  have hA : ∀ q : Nat, s.heap.size ≤ q → A q := fun q h => by rw [← hAe]; exact Or.inr h
  have hS : va_S A s.heap s.heap [] := va_S.rf
  have hP : va_P D vwCl (wM ct g n dc pa va dl ge su mk dp sq tc kp la) s.heap := hP
  clear hAe hD0
  have hl := lv_entry ([.ref (g 0), .int p0]) (n := 5) (Nat.le_of_ble_eq_true rfl)
  rw [lg_entry_eq]
  generalize (lg_sl ([.ref (g 0), .int p0]) ++ List.replicate (5 - (lg_sl ([.ref (g 0), .int p0])).length) Slot.unset).toArray = ls at hl ⊢
  have hl : lv_has ls 5 [(0, .ref (g 0)), (1, .int p0)] := hl
  have hH0 : s.heap.size ≤ s.heap.size := Nat.le_refl _
  refine lv_iconst (v := nI 0) hx hb dX4_size_0 (by decide) ?_
  refine lv_istore_n (lv' := [(2, .int (nI 0)), (0, .ref (g 0)), (1, .int p0)]) hx hb dX4_size_1 rfl hl (by decide) rfl (fun ls hl => ?_)
  refine lv_aload_n hx hb dX4_size_2 rfl (lv_at hl 1 rfl) ?_
  refine lv_iload_n hx hb dX4_size_3 rfl (lv_at hl 2 rfl) ?_
  refine r_cS (As := [.int p0]) (rest := [.ref (g 0)]) ⟨hx, hb, hml, hown, hts⟩ (cX4_isStore_ok l D ct p0 ) (va_cwS 1 hts gX4_size_X4_isStore rfl rfl rfl (by decide +kernel) ⟨Nat.le_of_ble_eq_true rfl, Nat.le_of_ble_eq_true rfl⟩) hK va_Pnil rfl hl.1 rfl (Nat.le_of_ble_eq_true rfl) dX4_size_4 ⟨Nat.le_of_ble_eq_true rfl, Nat.le_of_ble_eq_true rfl⟩ ?_
  refine r_top (y := bI false) (congrArg bI (show (inn p0 (nI 0) (nI 2)) = false from hbad)) ?_
  refine lv_iconst (v := nI 1) hx hb dX4_size_7 (by decide) ?_
  refine lv_iconst (v := nI 1) hx hb dX4_size_8 (by decide) ?_
  refine r_wVi (As := [.int (bI false), .int (bI true), .int (bI true)]) (rest := []) ⟨hx, hb, hml, hown, hts⟩ (cX4_goes_ok l D ct g n dc pa va dl ge su mk dp sq tc kp la false true true  s.heap.size) (cwV 3 hts gX4_size_X4_goes rfl rfl rfl (by decide +kernel) ⟨Nat.le_of_ble_eq_true rfl, Nat.le_of_ble_eq_true rfl⟩) hK hP hD hS hA [0, 1, 2, 3, 4, 5, 6, 7, 8, 9, 10, 11] rfl rfl rfl 0 4 rfl rfl rfl hl.1 rfl (Nat.le_of_ble_eq_true rfl) dX4_size_9 ⟨Nat.le_of_ble_eq_true rfl, Nat.le_of_ble_eq_true rfl⟩ (fun H locs hP hD hS => ?_)
  have hP : va_P D vwCl (wM ct g n dc pa va dl ge su mk dp sq tc kp (gof false true true)) H := hP
  have hD : va_D A (wM ct g n dc pa va dl ge su mk dp sq tc kp (gof false true true)) := hD
  refine r_top (y := bI false) (congrArg bI (show (false && (true && true)) = false from rfl)) ?_
  refine lv_istore_n (lv' := [(3, .int (bI false)), (2, .int (nI 0)), (0, .ref (g 0)), (1, .int p0)]) hx hb dX4_size_12 rfl hl (by decide) rfl (fun ls hl => ?_)
  refine lv_iconst (v := nI 0) hx hb dX4_size_13 (by decide) ?_
  refine lv_istore (lv' := [(4, .int (nI 0)), (3, .int (bI false)), (2, .int (nI 0)), (0, .ref (g 0)), (1, .int p0)]) hx hb dX4_size_14 hl (by decide) rfl (fun ls hl => ?_)
  have key16 : ∀ (d16 : Nat)  , 0 < d16 → ∀ (H : Heap) (locs : List Loc) (ls : Array Slot), va_P D vwCl (wM ct g n dc pa va dl ge su mk dp sq tc kp (gof false true true)) H → va_D A (wM ct g n dc pa va dl ge su mk dp sq tc kp (gof false true true)) → va_S A s.heap H locs → lv_has ls 5 [(4, .int (nI 0)), (3, .int (bI false)), (2, .int (nI 0)), (0, .ref (g 0)), (1, .int p0)] → W p l e ({ frames := 2, cells := 0, slots := 0, locals := 42 } : Room) s m ([.ref (g 0), .int p0] : List Value).toArray below meth c H locs 0 0 (MQ below (wqI D (nI 0) (wM ct g n dc pa va dl ge su mk dp sq tc kp (nI 1)) A) ([.ref (g 0), .int p0] : List Value).toArray s 0 0 A) (F0 m 16 ls []) := by
    intro d16
    induction d16 with
    | zero => intro   h9; exact absurd h9 (Nat.not_lt_zero _)
    | succ d16 ih16 =>
      intro   hm16 H locs ls hP hD hS hl
      refine lv_iload hx hb dX4_size_16 (lv_at hl 0 rfl) ?_
      refine lv_aload_n hx hb dX4_size_18 rfl (lv_at hl 3 rfl) ?_
      refine va_get (D := D) (ci := 4) (v := .int (nI n)) (C := RX4) (T := TX4) (N := 13) hx hb hts (fun _ h => List.mem_cons_of_mem _ (List.mem_append_right _ h)) hown hK.1 hP 0 rfl rfl 6 (by decide) (hts (.fieldLink RX4 52 "RevisionStoresModel" "revisions" "I") (List.mem_of_getElem? (i := 1) rfl)) (fun _ h9 => h9) rfl dX4_size_19 ?_
      refine r_icmp_geN hx hb (x := 0) (y := n) (by first | omega | decide) (by first | omega | decide) (tgt := 59) dX4_size_22 (by decide) (fun c22 => ?_) (fun c22 => ?_)
      · refine lv_iload_n hx hb dX4_size_59 rfl (lv_at hl 2 rfl) ?_
        have e9 : (gof false true true) = (nI 1) := rfl
        have hP := (congrArg (fun z9 => va_P D vwCl (wM ct g n dc pa va dl ge su mk dp sq tc kp z9) H) e9).mp hP
        have hP : va_P D vwCl (wM ct g n dc pa va dl ge su mk dp sq tc kp (nI 1)) H := hP
        exact W.iret hx hb hr (fun t ht hW => ⟨⟨_, (), rfl, rfl, by show va_P D vwCl _ t.heap; rw [ht]; exact hP⟩, hS.F ht⟩) hS.2.2 dX4_size_60
      · refine lv_iload_n hx hb dX4_size_25 rfl (lv_at hl 1 rfl) ?_
        refine r_if_eqB (x := false) (tgt := 59) hx hb dX4_size_26 (by decide) (fun c26 => ?_) (fun c26 => by cases c26)
        refine lv_iload_n hx hb dX4_size_59 rfl (lv_at hl 2 rfl) ?_
        have e9 : (gof false true true) = (nI 1) := rfl
        have hP := (congrArg (fun z9 => va_P D vwCl (wM ct g n dc pa va dl ge su mk dp sq tc kp z9) H) e9).mp hP
        have hP : va_P D vwCl (wM ct g n dc pa va dl ge su mk dp sq tc kp (nI 1)) H := hP
        exact W.iret hx hb hr (fun t ht hW => ⟨⟨_, (), rfl, rfl, by show va_P D vwCl _ t.heap; rw [ht]; exact hP⟩, hS.F ht⟩) hS.2.2 dX4_size_60
  exact key16 (0 + 1)   (Nat.lt_succ_self _) H locs ls hP hD hS (lv_sub hl [0, 1, 2, 3, 4] rfl)
set_option maxHeartbeats 8000000 in
set_option maxRecDepth 100000 in
theorem cX4_winner_ok (l : Launch) (D : va_G) (ct : Nat → ClassId) (g : Nat → Nat) (n : Nat) (dc : Nat → Nat) (pa : Nat → Option Nat) (va : Nat → Int32) (dl : Nat → Bool) (ge : Nat → Nat) (su : Nat → Int32) (mk : Nat → Bool) (dp : Nat → Int32) (sq : Nat → Int32) (tc : Nat → Int32) (kp : Nat → Int32) (la : Int32) (i : Nat) (d : Nat) (hn : n ≤ 150) (hTd : ∀ k, dc k < 4) (hTg : ∀ k, ge k ≤ 150) (hTp : ∀ k j, k < n → pa k = some j → j < k) (hi : i < 3) (hd4 : d < 4) (sz : Nat) : Met l yX4_winner wsX4_winner ({ frames := 4, cells := 0, slots := 0, locals := 94 } : Room) (wrPc D ct [.ref (g 0), .int (nI i), .int (nI d)] (wM ct g n dc pa va dl ge su mk dp sq tc kp la) sz) (wqI D (eP (bsS dc dl ge su (lef pa mk i n) d n)) (wM ct g n dc pa va dl ge su mk dp sq tc kp (nI 0)) (va_A (wM ct g n dc pa va dl ge su mk dp sq tc kp la) sz)) 0 0 (va_A (wM ct g n dc pa va dl ge su mk dp sq tc kp la) sz) := by
  refine Met.ofW (cc := cX4_winner) (maxL := 3) (ret := (some .int)) (by decide) rfl ?_
  intro p e s m args below meth c s₁ B hml hv
  obtain ⟨rfl, hsz, hP, hK, hD0⟩ := hv
  have hx := B.exec
  have hb := B.bytes
  have hr := B.returns
  have hts := atoms_spec (ws := wsX4_winner) B.pre
  have hown : s.vm.findClass RX4 = some m.cls := findClass_of_methodNamed B.named
  have hlocks := B.notSynchronized
  subst hsz
  have hD := hD0.self (sz := s.heap.size)
  generalize hAe : va_A (wM ct g n dc pa va dl ge su mk dp sq tc kp la) s.heap.size = A at hD ⊢
  have hA : ∀ q : Nat, s.heap.size ≤ q → A q := fun q h => by rw [← hAe]; exact Or.inr h
  have hS : va_S A s.heap s.heap [] := va_S.rf
  have hP : va_P D vwCl (wM ct g n dc pa va dl ge su mk dp sq tc kp la) s.heap := hP
  clear hAe hD0
  have hl := lv_entry ([.ref (g 0), .int (nI i), .int (nI d)]) (n := 3) (Nat.le_of_ble_eq_true rfl)
  rw [lg_entry_eq]
  generalize (lg_sl ([.ref (g 0), .int (nI i), .int (nI d)]) ++ List.replicate (3 - (lg_sl ([.ref (g 0), .int (nI i), .int (nI d)])).length) Slot.unset).toArray = ls at hl ⊢
  have hl : lv_has ls 3 [(0, .ref (g 0)), (1, .int (nI i)), (2, .int (nI d))] := hl
  have hH0 : s.heap.size ≤ s.heap.size := Nat.le_refl _
  refine lv_aload_n hx hb dX4_winner_0 rfl (lv_at hl 0 rfl) ?_
  refine lv_iload_n hx hb dX4_winner_1 rfl (lv_at hl 1 rfl) ?_
  refine r_cS (As := [.int (nI i)]) (rest := [.ref (g 0)]) ⟨hx, hb, hml, hown, hts⟩ (cX4_isStore_ok l D ct (nI i) ) (va_cwS 1 hts gX4_winner_X4_isStore rfl rfl rfl (by decide +kernel) ⟨Nat.le_of_ble_eq_true rfl, Nat.le_of_ble_eq_true rfl⟩) hK va_Pnil rfl hl.1 rfl (Nat.le_of_ble_eq_true rfl) dX4_winner_2 ⟨Nat.le_of_ble_eq_true rfl, Nat.le_of_ble_eq_true rfl⟩ ?_
  refine r_top (y := bI true) (congrArg bI (show (inn (nI i) (nI 0) (nI 2)) = true from inn_t (by omega) (by decide))) ?_
  refine r_if_eqB (x := true) (tgt := 19) hx hb dX4_winner_5 (by decide) (fun c5 => by cases c5) (fun c5 => ?_)
  refine lv_iload_n hx hb dX4_winner_8 rfl (lv_at hl 2 rfl) ?_
  refine r_cS (As := [.int (nI d)]) (rest := [.ref (g 0)]) ⟨hx, hb, hml, hown, hts⟩ (cX4_isDocument_ok l D ct (nI d) ) (va_cwS 1 hts gX4_winner_X4_isDocument rfl rfl rfl (by decide +kernel) ⟨Nat.le_of_ble_eq_true rfl, Nat.le_of_ble_eq_true rfl⟩) hK va_Pnil rfl hl.1 rfl (Nat.le_of_ble_eq_true rfl) dX4_winner_9 ⟨Nat.le_of_ble_eq_true rfl, Nat.le_of_ble_eq_true rfl⟩ ?_
  refine r_top (y := bI true) (congrArg bI (show (inn (nI d) (nI 0) (nI 3)) = true from inn_t (by omega) (by decide))) ?_
  refine r_if_eqB (x := true) (tgt := 19) hx hb dX4_winner_12 (by decide) (fun c12 => by cases c12) (fun c12 => ?_)
  refine lv_iconst (v := nI 1) hx hb dX4_winner_15 (by decide) ?_
  refine lv_goto (tgt := 20) hx hb dX4_winner_16 (by decide) ?_
  refine lv_iconst (v := nI 1) hx hb dX4_winner_20 (by decide) ?_
  refine lv_iconst (v := nI 1) hx hb dX4_winner_21 (by decide) ?_
  refine r_wVi (As := [.int (bI true), .int (bI true), .int (bI true)]) (rest := []) ⟨hx, hb, hml, hown, hts⟩ (cX4_goes_ok l D ct g n dc pa va dl ge su mk dp sq tc kp la true true true  s.heap.size) (cwV 3 hts gX4_winner_X4_goes rfl rfl rfl (by decide +kernel) ⟨Nat.le_of_ble_eq_true rfl, Nat.le_of_ble_eq_true rfl⟩) hK hP hD hS hA [0, 1, 2, 3, 4, 5, 6, 7, 8, 9, 10, 11] rfl rfl rfl 0 4 rfl rfl rfl hl.1 rfl (Nat.le_of_ble_eq_true rfl) dX4_winner_22 ⟨Nat.le_of_ble_eq_true rfl, Nat.le_of_ble_eq_true rfl⟩ (fun H locs hP hD hS => ?_)
  have hP : va_P D vwCl (wM ct g n dc pa va dl ge su mk dp sq tc kp (gof true true true)) H := hP
  have hD : va_D A (wM ct g n dc pa va dl ge su mk dp sq tc kp (gof true true true)) := hD
  refine r_top (y := bI true) (congrArg bI (show (true && (true && true)) = true from rfl)) ?_
  refine r_if_eqB (x := true) (tgt := 37) hx hb dX4_winner_25 (by decide) (fun c25 => by cases c25) (fun c25 => ?_)
  refine lv_aload_n hx hb dX4_winner_28 rfl (lv_at hl 0 rfl) ?_
  refine lv_iload_n hx hb dX4_winner_29 rfl (lv_at hl 1 rfl) ?_
  refine lv_iload_n hx hb dX4_winner_30 rfl (lv_at hl 2 rfl) ?_
  refine r_cV (As := [.int (nI i), .int (nI d)]) (rest := []) ⟨hx, hb, hml, hown, hts⟩ (cX4_best_ok l D ct g n dc pa va dl ge su mk dp sq tc kp (gof true true true) i d (by first | assumption | omega) (by first | assumption | omega) (by first | assumption | omega) (by first | assumption | omega) (by first | assumption | omega) (by first | assumption | omega)) (cwV 2 hts gX4_winner_X4_best rfl rfl rfl (by decide +kernel) ⟨Nat.le_of_ble_eq_true rfl, Nat.le_of_ble_eq_true rfl⟩) hK (hP.sub (ws' := wM ct g n dc pa va dl ge su mk dp sq tc kp (gof true true true)) [0, 1, 2, 3, 4, 5, 6, 7, 8, 9, 10, 11] rfl) 0 4 rfl rfl rfl hl.1 rfl (Nat.le_of_ble_eq_true rfl) dX4_winner_31 ⟨Nat.le_of_ble_eq_true rfl, Nat.le_of_ble_eq_true rfl⟩ ?_
  refine lv_goto (tgt := 38) hx hb dX4_winner_34 (by decide) ?_
  have e9 : (gof true true true) = (nI 0) := rfl
  have hP := (congrArg (fun z9 => va_P D vwCl (wM ct g n dc pa va dl ge su mk dp sq tc kp z9) H) e9).mp hP
  have hP : va_P D vwCl (wM ct g n dc pa va dl ge su mk dp sq tc kp (nI 0)) H := hP
  exact W.iret hx hb hr (fun t ht hW => ⟨⟨_, (), rfl, rfl, by show va_P D vwCl _ t.heap; rw [ht]; exact hP⟩, hS.F ht⟩) hS.2.2 dX4_winner_38
set_option maxHeartbeats 8000000 in
set_option maxRecDepth 100000 in
theorem cX4_winner_bad (l : Launch) (D : va_G) (ct : Nat → ClassId) (g : Nat → Nat) (n : Nat) (dc : Nat → Nat) (pa : Nat → Option Nat) (va : Nat → Int32) (dl : Nat → Bool) (ge : Nat → Nat) (su : Nat → Int32) (mk : Nat → Bool) (dp : Nat → Int32) (sq : Nat → Int32) (tc : Nat → Int32) (kp : Nat → Int32) (la : Int32) (p0 : Int32) (p1 : Int32) (hbad : (inn p0 (nI 0) (nI 2) && inn p1 (nI 0) (nI 3)) = false) (sz : Nat) : Met l yX4_winner wsX4_winner ({ frames := 4, cells := 0, slots := 0, locals := 94 } : Room) (wrPc D ct [.ref (g 0), .int p0, .int p1] (wM ct g n dc pa va dl ge su mk dp sq tc kp la) sz) (wqI D (nI 0) (wM ct g n dc pa va dl ge su mk dp sq tc kp (nI 1)) (va_A (wM ct g n dc pa va dl ge su mk dp sq tc kp la) sz)) 0 0 (va_A (wM ct g n dc pa va dl ge su mk dp sq tc kp la) sz) := by
  refine Met.ofW (cc := cX4_winner) (maxL := 3) (ret := (some .int)) (by decide) rfl ?_
  intro p e s m args below meth c s₁ B hml hv
  obtain ⟨rfl, hsz, hP, hK, hD0⟩ := hv
  have hx := B.exec
  have hb := B.bytes
  have hr := B.returns
  have hts := atoms_spec (ws := wsX4_winner) B.pre
  have hown : s.vm.findClass RX4 = some m.cls := findClass_of_methodNamed B.named
  have hlocks := B.notSynchronized
  subst hsz
  have hD := hD0.self (sz := s.heap.size)
  generalize hAe : va_A (wM ct g n dc pa va dl ge su mk dp sq tc kp la) s.heap.size = A at hD ⊢
  have hA : ∀ q : Nat, s.heap.size ≤ q → A q := fun q h => by rw [← hAe]; exact Or.inr h
  have hS : va_S A s.heap s.heap [] := va_S.rf
  have hP : va_P D vwCl (wM ct g n dc pa va dl ge su mk dp sq tc kp la) s.heap := hP
  clear hAe hD0
  have hl := lv_entry ([.ref (g 0), .int p0, .int p1]) (n := 3) (Nat.le_of_ble_eq_true rfl)
  rw [lg_entry_eq]
  generalize (lg_sl ([.ref (g 0), .int p0, .int p1]) ++ List.replicate (3 - (lg_sl ([.ref (g 0), .int p0, .int p1])).length) Slot.unset).toArray = ls at hl ⊢
  have hl : lv_has ls 3 [(0, .ref (g 0)), (1, .int p0), (2, .int p1)] := hl
  have hH0 : s.heap.size ≤ s.heap.size := Nat.le_refl _
  have jn20 : ∀ (H : Heap) (locs : List Loc) (ls : Array Slot), va_P D vwCl (wM ct g n dc pa va dl ge su mk dp sq tc kp la) H → va_D A (wM ct g n dc pa va dl ge su mk dp sq tc kp la) → va_S A s.heap H locs → lv_has ls 3 [(0, .ref (g 0)), (1, .int p0), (2, .int p1)] → W p l e ({ frames := 4, cells := 0, slots := 0, locals := 94 } : Room) s m ([.ref (g 0), .int p0, .int p1] : List Value).toArray below meth c H locs 0 0 (MQ below (wqI D (nI 0) (wM ct g n dc pa va dl ge su mk dp sq tc kp (nI 1)) A) ([.ref (g 0), .int p0, .int p1] : List Value).toArray s 0 0 A) (F0 m 20 ls [.int (bI false), .ref (g 0)]) := by
    intro H locs ls hP hD hS hl
    refine lv_iconst (v := nI 1) hx hb dX4_winner_20 (by decide) ?_
    refine lv_iconst (v := nI 1) hx hb dX4_winner_21 (by decide) ?_
    refine r_wVi (As := [.int (bI false), .int (bI true), .int (bI true)]) (rest := []) ⟨hx, hb, hml, hown, hts⟩ (cX4_goes_ok l D ct g n dc pa va dl ge su mk dp sq tc kp la false true true  H.size) (cwV 3 hts gX4_winner_X4_goes rfl rfl rfl (by decide +kernel) ⟨Nat.le_of_ble_eq_true rfl, Nat.le_of_ble_eq_true rfl⟩) hK hP hD hS hA [0, 1, 2, 3, 4, 5, 6, 7, 8, 9, 10, 11] rfl rfl rfl 0 4 rfl rfl rfl hl.1 rfl (Nat.le_of_ble_eq_true rfl) dX4_winner_22 ⟨Nat.le_of_ble_eq_true rfl, Nat.le_of_ble_eq_true rfl⟩ (fun H locs hP hD hS => ?_)
    have hP : va_P D vwCl (wM ct g n dc pa va dl ge su mk dp sq tc kp (gof false true true)) H := hP
    have hD : va_D A (wM ct g n dc pa va dl ge su mk dp sq tc kp (gof false true true)) := hD
    refine r_top (y := bI false) (congrArg bI (show (false && (true && true)) = false from rfl)) ?_
    refine r_if_eqB (x := false) (tgt := 37) hx hb dX4_winner_25 (by decide) (fun c25 => ?_) (fun c25 => by cases c25)
    refine lv_iconst (v := nI 0) hx hb dX4_winner_37 (by decide) ?_
    have e9 : (gof false true true) = (nI 1) := rfl
    have hP := (congrArg (fun z9 => va_P D vwCl (wM ct g n dc pa va dl ge su mk dp sq tc kp z9) H) e9).mp hP
    have hP : va_P D vwCl (wM ct g n dc pa va dl ge su mk dp sq tc kp (nI 1)) H := hP
    exact W.iret hx hb hr (fun t ht hW => ⟨⟨_, (), rfl, rfl, by show va_P D vwCl _ t.heap; rw [ht]; exact hP⟩, hS.F ht⟩) hS.2.2 dX4_winner_38
  refine lv_aload_n hx hb dX4_winner_0 rfl (lv_at hl 0 rfl) ?_
  refine lv_iload_n hx hb dX4_winner_1 rfl (lv_at hl 1 rfl) ?_
  refine r_cS (As := [.int p0]) (rest := [.ref (g 0)]) ⟨hx, hb, hml, hown, hts⟩ (cX4_isStore_ok l D ct p0 ) (va_cwS 1 hts gX4_winner_X4_isStore rfl rfl rfl (by decide +kernel) ⟨Nat.le_of_ble_eq_true rfl, Nat.le_of_ble_eq_true rfl⟩) hK va_Pnil rfl hl.1 rfl (Nat.le_of_ble_eq_true rfl) dX4_winner_2 ⟨Nat.le_of_ble_eq_true rfl, Nat.le_of_ble_eq_true rfl⟩ ?_
  refine r_if_eqB (x := inn p0 (nI 0) (nI 2)) (tgt := 19) hx hb dX4_winner_5 (by decide) (fun c5 => ?_) (fun c5 => ?_)
  · refine lv_iconst (v := nI 0) hx hb dX4_winner_19 (by decide) ?_
    refine r_top (y := bI false) (congrArg bI (show false = false from by first | rfl | (exfalso; simp [c5] at hbad))) ?_
    exact jn20 _ _ ls hP hD hS (lv_sub hl [0, 1, 2] rfl)
  · refine lv_iload_n hx hb dX4_winner_8 rfl (lv_at hl 2 rfl) ?_
    refine r_cS (As := [.int p1]) (rest := [.ref (g 0)]) ⟨hx, hb, hml, hown, hts⟩ (cX4_isDocument_ok l D ct p1 ) (va_cwS 1 hts gX4_winner_X4_isDocument rfl rfl rfl (by decide +kernel) ⟨Nat.le_of_ble_eq_true rfl, Nat.le_of_ble_eq_true rfl⟩) hK va_Pnil rfl hl.1 rfl (Nat.le_of_ble_eq_true rfl) dX4_winner_9 ⟨Nat.le_of_ble_eq_true rfl, Nat.le_of_ble_eq_true rfl⟩ ?_
    refine r_if_eqB (x := inn p1 (nI 0) (nI 3)) (tgt := 19) hx hb dX4_winner_12 (by decide) (fun c12 => ?_) (fun c12 => ?_)
    · refine lv_iconst (v := nI 0) hx hb dX4_winner_19 (by decide) ?_
      refine r_top (y := bI false) (congrArg bI (show false = false from by first | rfl | (exfalso; simp [c5, c12] at hbad))) ?_
      exact jn20 _ _ ls hP hD hS (lv_sub hl [0, 1, 2] rfl)
    · refine lv_iconst (v := nI 1) hx hb dX4_winner_15 (by decide) ?_
      refine lv_goto (tgt := 20) hx hb dX4_winner_16 (by decide) ?_
      refine r_top (y := bI false) (congrArg bI (show true = false from by first | rfl | (exfalso; simp [c5, c12] at hbad))) ?_
      exact jn20 _ _ ls hP hD hS (lv_sub hl [0, 1, 2] rfl)
