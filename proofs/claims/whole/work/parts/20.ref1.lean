set_option maxHeartbeats 8000000 in
set_option maxRecDepth 100000 in
theorem cX4_in_ok (l : Launch) (D : va_G) (ct : Nat → ClassId) (x : Int32) (lo : Int32) (hi : Int32)  : Met l yX4_in wsX4_in ({ frames := 0, cells := 0, slots := 0, locals := 0 } : Room) (roPc D ct [.int x, .int lo, .int hi] (([] : va_W))) (rqI (bI (inn x lo hi))) 0 0 (fun _ => False) := by
  refine Met.ofW (cc := cX4_in) (maxL := 3) (ret := (some .boolean)) (by decide) rfl ?_
  intro p e s m args below meth c s₁ B hml hv
  obtain ⟨rfl, hP, hK⟩ := hv
  have hx := B.exec
  have hb := B.bytes
  have hr := B.returns
  have hts := atoms_spec (ws := wsX4_in) B.pre
  have hown : s.vm.findClass RX4 = some m.cls := findClass_of_methodNamed B.named
  have hlocks := B.notSynchronized
  have hl := lv_entry ([.int x, .int lo, .int hi]) (n := 3) (Nat.le_of_ble_eq_true rfl)
  rw [lg_entry_eq]
  generalize (lg_sl ([.int x, .int lo, .int hi]) ++ List.replicate (3 - (lg_sl ([.int x, .int lo, .int hi])).length) Slot.unset).toArray = ls at hl ⊢
  have hl : lv_has ls 3 [(0, .int x), (1, .int lo), (2, .int hi)] := hl
  refine lv_iload_n hx hb dX4_in_0 rfl (lv_at hl 0 rfl) ?_
  refine lv_iload_n hx hb dX4_in_1 rfl (lv_at hl 1 rfl) ?_
  refine lv_icmp_lt (x := x) (y := lo) (tgt := 14) hx hb dX4_in_2 (by decide) (fun c2 => ?_) (fun c2 => ?_)
  · refine lv_iconst (v := nI 0) hx hb dX4_in_14 (by decide) ?_
    refine r_top (y := bI (inn x lo hi)) (congrArg bI (show false = (inn x lo hi) from by simp [inn, c2])) ?_
    exact W.zret hx hb hr (bI_narrow _) (fun t ht hW => ⟨_, rfl, rfl, ht⟩) (fun _ h => by cases h) dX4_in_15
  · refine lv_iload_n hx hb dX4_in_5 rfl (lv_at hl 0 rfl) ?_
    refine lv_iload_n hx hb dX4_in_6 rfl (lv_at hl 2 rfl) ?_
    refine lv_icmp_gt (x := x) (y := hi) (tgt := 14) hx hb dX4_in_7 (by decide) (fun c7 => ?_) (fun c7 => ?_)
    · refine lv_iconst (v := nI 0) hx hb dX4_in_14 (by decide) ?_
      refine r_top (y := bI (inn x lo hi)) (congrArg bI (show false = (inn x lo hi) from by simp [inn, c2, c7])) ?_
      exact W.zret hx hb hr (bI_narrow _) (fun t ht hW => ⟨_, rfl, rfl, ht⟩) (fun _ h => by cases h) dX4_in_15
    · refine lv_iconst (v := nI 1) hx hb dX4_in_10 (by decide) ?_
      refine lv_goto (tgt := 15) hx hb dX4_in_11 (by decide) ?_
      refine r_top (y := bI (inn x lo hi)) (congrArg bI (show true = (inn x lo hi) from by simp [inn, c2, c7])) ?_
      exact W.zret hx hb hr (bI_narrow _) (fun t ht hW => ⟨_, rfl, rfl, ht⟩) (fun _ h => by cases h) dX4_in_15
set_option maxHeartbeats 8000000 in
set_option maxRecDepth 100000 in
theorem cX4_isStore_ok (l : Launch) (D : va_G) (ct : Nat → ClassId) (x : Int32)  : Met l yX4_isStore wsX4_isStore ({ frames := 1, cells := 0, slots := 0, locals := 22 } : Room) (roPc D ct [.int x] (([] : va_W))) (rqI (bI (inn x (nI 0) (nI 2)))) 0 0 (fun _ => False) := by
  refine Met.ofW (cc := cX4_isStore) (maxL := 1) (ret := (some .boolean)) (by decide) rfl ?_
  intro p e s m args below meth c s₁ B hml hv
  obtain ⟨rfl, hP, hK⟩ := hv
  have hx := B.exec
  have hb := B.bytes
  have hr := B.returns
  have hts := atoms_spec (ws := wsX4_isStore) B.pre
  have hown : s.vm.findClass RX4 = some m.cls := findClass_of_methodNamed B.named
  have hlocks := B.notSynchronized
  have hl := lv_entry ([.int x]) (n := 1) (Nat.le_of_ble_eq_true rfl)
  rw [lg_entry_eq]
  generalize (lg_sl ([.int x]) ++ List.replicate (1 - (lg_sl ([.int x])).length) Slot.unset).toArray = ls at hl ⊢
  have hl : lv_has ls 1 [(0, .int x)] := hl
  refine lv_iload_n hx hb dX4_isStore_0 rfl (lv_at hl 0 rfl) ?_
  refine lv_iconst (v := nI 0) hx hb dX4_isStore_1 (by decide) ?_
  refine lv_iconst (v := nI 2) hx hb dX4_isStore_2 (by decide) ?_
  refine r_cS (As := [.int x, .int (nI 0), .int (nI 2)]) (rest := []) ⟨hx, hb, hml, hown, hts⟩ (cX4_in_ok l D ct x (nI 0) (nI 2) ) (va_cwS 3 hts gX4_isStore_X4_in rfl rfl rfl (by decide +kernel) ⟨Nat.le_of_ble_eq_true rfl, Nat.le_of_ble_eq_true rfl⟩) hK va_Pnil rfl hl.1 rfl (Nat.le_of_ble_eq_true rfl) dX4_isStore_3 ⟨Nat.le_of_ble_eq_true rfl, Nat.le_of_ble_eq_true rfl⟩ ?_
  exact W.zret hx hb hr (bI_narrow _) (fun t ht hW => ⟨_, rfl, rfl, ht⟩) (fun _ h => by cases h) dX4_isStore_6
set_option maxHeartbeats 8000000 in
set_option maxRecDepth 100000 in
theorem cX4_isDocument_ok (l : Launch) (D : va_G) (ct : Nat → ClassId) (x : Int32)  : Met l yX4_isDocument wsX4_isDocument ({ frames := 1, cells := 0, slots := 0, locals := 22 } : Room) (roPc D ct [.int x] (([] : va_W))) (rqI (bI (inn x (nI 0) (nI 3)))) 0 0 (fun _ => False) := by
  refine Met.ofW (cc := cX4_isDocument) (maxL := 1) (ret := (some .boolean)) (by decide) rfl ?_
  intro p e s m args below meth c s₁ B hml hv
  obtain ⟨rfl, hP, hK⟩ := hv
  have hx := B.exec
  have hb := B.bytes
  have hr := B.returns
  have hts := atoms_spec (ws := wsX4_isDocument) B.pre
  have hown : s.vm.findClass RX4 = some m.cls := findClass_of_methodNamed B.named
  have hlocks := B.notSynchronized
  have hl := lv_entry ([.int x]) (n := 1) (Nat.le_of_ble_eq_true rfl)
  rw [lg_entry_eq]
  generalize (lg_sl ([.int x]) ++ List.replicate (1 - (lg_sl ([.int x])).length) Slot.unset).toArray = ls at hl ⊢
  have hl : lv_has ls 1 [(0, .int x)] := hl
  refine lv_iload_n hx hb dX4_isDocument_0 rfl (lv_at hl 0 rfl) ?_
  refine lv_iconst (v := nI 0) hx hb dX4_isDocument_1 (by decide) ?_
  refine lv_iconst (v := nI 3) hx hb dX4_isDocument_2 (by decide) ?_
  refine r_cS (As := [.int x, .int (nI 0), .int (nI 3)]) (rest := []) ⟨hx, hb, hml, hown, hts⟩ (cX4_in_ok l D ct x (nI 0) (nI 3) ) (va_cwS 3 hts gX4_isDocument_X4_in rfl rfl rfl (by decide +kernel) ⟨Nat.le_of_ble_eq_true rfl, Nat.le_of_ble_eq_true rfl⟩) hK va_Pnil rfl hl.1 rfl (Nat.le_of_ble_eq_true rfl) dX4_isDocument_3 ⟨Nat.le_of_ble_eq_true rfl, Nat.le_of_ble_eq_true rfl⟩ ?_
  exact W.zret hx hb hr (bI_narrow _) (fun t ht hW => ⟨_, rfl, rfl, ht⟩) (fun _ h => by cases h) dX4_isDocument_6
set_option maxHeartbeats 8000000 in
set_option maxRecDepth 100000 in
theorem cX4_isRevision_ok (l : Launch) (D : va_G) (ct : Nat → ClassId) (g : Nat → Nat) (n : Nat) (dc : Nat → Nat) (pa : Nat → Option Nat) (va : Nat → Int32) (dl : Nat → Bool) (ge : Nat → Nat) (su : Nat → Int32) (mk : Nat → Bool) (dp : Nat → Int32) (sq : Nat → Int32) (tc : Nat → Int32) (kp : Nat → Int32) (la : Int32) (x : Int32)  : Met l yX4_isRevision wsX4_isRevision ({ frames := 1, cells := 0, slots := 0, locals := 22 } : Room) (roPc D ct [.ref (g 0), .int x] (wM ct g n dc pa va dl ge su mk dp sq tc kp la)) (rqI (bI (inn x (nI 0) (eP (prd n))))) 0 0 (fun _ => False) := by
  refine Met.ofW (cc := cX4_isRevision) (maxL := 2) (ret := (some .boolean)) (by decide) rfl ?_
  intro p e s m args below meth c s₁ B hml hv
  obtain ⟨rfl, hP, hK⟩ := hv
  have hx := B.exec
  have hb := B.bytes
  have hr := B.returns
  have hts := atoms_spec (ws := wsX4_isRevision) B.pre
  have hown : s.vm.findClass RX4 = some m.cls := findClass_of_methodNamed B.named
  have hlocks := B.notSynchronized
  have hl := lv_entry ([.ref (g 0), .int x]) (n := 2) (Nat.le_of_ble_eq_true rfl)
  rw [lg_entry_eq]
  generalize (lg_sl ([.ref (g 0), .int x]) ++ List.replicate (2 - (lg_sl ([.ref (g 0), .int x])).length) Slot.unset).toArray = ls at hl ⊢
  have hl : lv_has ls 2 [(0, .ref (g 0)), (1, .int x)] := hl
  refine lv_iload_n hx hb dX4_isRevision_0 rfl (lv_at hl 1 rfl) ?_
  refine lv_iconst (v := nI 0) hx hb dX4_isRevision_1 (by decide) ?_
  refine lv_aload_n hx hb dX4_isRevision_2 rfl (lv_at hl 0 rfl) ?_
  refine va_get (D := D) (ci := 4) (v := .int (nI n)) (C := RX4) (T := TX4) (N := 13) hx hb hts (fun _ h => List.mem_cons_of_mem _ (List.mem_append_right _ h)) hown hK.1 hP 0 rfl rfl 6 (by decide) (hts (.fieldLink RX4 52 "RevisionStoresModel" "revisions" "I") (List.mem_of_getElem? (i := 1) rfl)) (fun _ h9 => h9) rfl dX4_isRevision_3 ?_
  refine lv_iconst (v := nI 1) hx hb dX4_isRevision_6 (by decide) ?_
  refine lv_isub hx hb dX4_isRevision_7 ?_
  refine r_top (y := eP (prd n)) (nI_prd2 _) ?_
  refine r_cS (As := [.int x, .int (nI 0), .int (eP (prd n))]) (rest := []) ⟨hx, hb, hml, hown, hts⟩ (cX4_in_ok l D ct x (nI 0) (eP (prd n)) ) (va_cwS 3 hts gX4_isRevision_X4_in rfl rfl rfl (by decide +kernel) ⟨Nat.le_of_ble_eq_true rfl, Nat.le_of_ble_eq_true rfl⟩) hK va_Pnil rfl hl.1 rfl (Nat.le_of_ble_eq_true rfl) dX4_isRevision_8 ⟨Nat.le_of_ble_eq_true rfl, Nat.le_of_ble_eq_true rfl⟩ ?_
  exact W.zret hx hb hr (bI_narrow _) (fun t ht hW => ⟨_, rfl, rfl, ht⟩) (fun _ h => by cases h) dX4_isRevision_11
set_option maxHeartbeats 8000000 in
set_option maxRecDepth 100000 in
theorem cX4_thrown_ok (l : Launch) (D : va_G) (ct : Nat → ClassId) (g : Nat → Nat) (n : Nat) (dc : Nat → Nat) (pa : Nat → Option Nat) (va : Nat → Int32) (dl : Nat → Bool) (ge : Nat → Nat) (su : Nat → Int32) (mk : Nat → Bool) (dp : Nat → Int32) (sq : Nat → Int32) (tc : Nat → Int32) (kp : Nat → Int32) (la : Int32)  : Met l yX4_thrown wsX4_thrown ({ frames := 0, cells := 0, slots := 0, locals := 0 } : Room) (roPc D ct [.ref (g 0)] (wM ct g n dc pa va dl ge su mk dp sq tc kp la)) (rqI (la)) 0 0 (fun _ => False) := by
  refine Met.ofW (cc := cX4_thrown) (maxL := 1) (ret := (some .int)) (by decide) rfl ?_
  intro p e s m args below meth c s₁ B hml hv
  obtain ⟨rfl, hP, hK⟩ := hv
  have hx := B.exec
  have hb := B.bytes
  have hr := B.returns
  have hts := atoms_spec (ws := wsX4_thrown) B.pre
  have hown : s.vm.findClass RX4 = some m.cls := findClass_of_methodNamed B.named
  have hlocks := B.notSynchronized
  have hl := lv_entry ([.ref (g 0)]) (n := 1) (Nat.le_of_ble_eq_true rfl)
  rw [lg_entry_eq]
  generalize (lg_sl ([.ref (g 0)]) ++ List.replicate (1 - (lg_sl ([.ref (g 0)])).length) Slot.unset).toArray = ls at hl ⊢
  have hl : lv_has ls 1 [(0, .ref (g 0))] := hl
  refine lv_aload_n hx hb dX4_thrown_0 rfl (lv_at hl 0 rfl) ?_
  refine va_get (D := D) (ci := 4) (v := .int la) (C := RX4) (T := TX4) (N := 13) hx hb hts (fun _ h => List.mem_cons_of_mem _ (List.mem_append_right _ h)) hown hK.1 hP 0 rfl rfl 12 (by decide) (hts (.fieldLink RX4 44 "RevisionStoresModel" "last" "I") (List.mem_of_getElem? (i := 1) rfl)) (fun _ h9 => h9) rfl dX4_thrown_1 ?_
  exact W.iret hx hb hr (fun t ht hW => ⟨_, rfl, rfl, ht⟩) (fun _ h => by cases h) dX4_thrown_4
set_option maxHeartbeats 8000000 in
set_option maxRecDepth 100000 in
theorem cX4_goes_ok (l : Launch) (D : va_G) (ct : Nat → ClassId) (g : Nat → Nat) (n : Nat) (dc : Nat → Nat) (pa : Nat → Option Nat) (va : Nat → Int32) (dl : Nat → Bool) (ge : Nat → Nat) (su : Nat → Int32) (mk : Nat → Bool) (dp : Nat → Int32) (sq : Nat → Int32) (tc : Nat → Int32) (kp : Nat → Int32) (la : Int32) (x1 : Bool) (x2 : Bool) (x3 : Bool)  (sz : Nat) : Met l yX4_goes wsX4_goes ({ frames := 0, cells := 0, slots := 0, locals := 0 } : Room) (wrPc D ct [.ref (g 0), .int (bI x1), .int (bI x2), .int (bI x3)] (wM ct g n dc pa va dl ge su mk dp sq tc kp la) sz) (wqI D (bI (x1 && (x2 && x3))) (wM ct g n dc pa va dl ge su mk dp sq tc kp (gof x1 x2 x3)) (va_A (wM ct g n dc pa va dl ge su mk dp sq tc kp la) sz)) 0 0 (va_A (wM ct g n dc pa va dl ge su mk dp sq tc kp la) sz) := by
  refine Met.ofW (cc := cX4_goes) (maxL := 4) (ret := (some .boolean)) (by decide) rfl ?_
  intro p e s m args below meth c s₁ B hml hv
  obtain ⟨rfl, hsz, hP, hK, hD0⟩ := hv
  have hx := B.exec
  have hb := B.bytes
  have hr := B.returns
  have hts := atoms_spec (ws := wsX4_goes) B.pre
  have hown : s.vm.findClass RX4 = some m.cls := findClass_of_methodNamed B.named
  have hlocks := B.notSynchronized
  subst hsz
  have hD := hD0.self (sz := s.heap.size)
  generalize hAe : va_A (wM ct g n dc pa va dl ge su mk dp sq tc kp la) s.heap.size = A at hD ⊢
  have hA : ∀ q : Nat, s.heap.size ≤ q → A q := fun q h => by rw [← hAe]; exact Or.inr h
  have hS : va_S A s.heap s.heap [] := va_S.rf
  have hP : va_P D vwCl (wM ct g n dc pa va dl ge su mk dp sq tc kp la) s.heap := hP
  clear hAe hD0
  have hl := lv_entry ([.ref (g 0), .int (bI x1), .int (bI x2), .int (bI x3)]) (n := 4) (Nat.le_of_ble_eq_true rfl)
  rw [lg_entry_eq]
  generalize (lg_sl ([.ref (g 0), .int (bI x1), .int (bI x2), .int (bI x3)]) ++ List.replicate (4 - (lg_sl ([.ref (g 0), .int (bI x1), .int (bI x2), .int (bI x3)])).length) Slot.unset).toArray = ls at hl ⊢
  have hl : lv_has ls 4 [(0, .ref (g 0)), (1, .int (bI x1)), (2, .int (bI x2)), (3, .int (bI x3))] := hl
  have hH0 : s.heap.size ≤ s.heap.size := Nat.le_refl _
  refine lv_aload_n hx hb dX4_goes_0 rfl (lv_at hl 0 rfl) ?_
  refine lv_iload_n hx hb dX4_goes_1 rfl (lv_at hl 1 rfl) ?_
  refine r_if_neB (x := x1) (tgt := 9) hx hb dX4_goes_2 (by decide) (fun c2 => ?_) (fun c2 => ?_)
  · refine lv_iload_n hx hb dX4_goes_9 rfl (lv_at hl 2 rfl) ?_
    refine r_if_neB (x := x2) (tgt := 17) hx hb dX4_goes_10 (by decide) (fun c10 => ?_) (fun c10 => ?_)
    · refine lv_iload_n hx hb dX4_goes_17 rfl (lv_at hl 3 rfl) ?_
      refine r_if_eqB (x := x3) (tgt := 25) hx hb dX4_goes_18 (by decide) (fun c18 => ?_) (fun c18 => ?_)
      · refine lv_iconst (v := nI 3) hx hb dX4_goes_25 (by decide) ?_
        refine r_top (y := gof x1 x2 x3) (by simp [gof, c2, c10, c18]) ?_
        refine va_put (D := D) (ci := 4) (v := .int (gof x1 x2 x3)) (ty := .int) (C := RX4) (T := TX4) (N := 13) hx hb hts (fun _ h => List.mem_cons_of_mem _ (List.mem_append_right _ h)) tyX4 tyX4_ok nmX4 hown hK.1 hP hD hS 0 rfl rfl 12 (by decide) (hts (.fieldLink RX4 44 "RevisionStoresModel" "last" "I") (List.mem_of_getElem? (i := 1) rfl)) (fun _ h9 => h9) rfl (by decide +kernel) rfl rfl (Nat.le_of_ble_eq_true rfl) dX4_goes_26 (fun H locs hP hD hS => ?_)
        have hP : va_P D vwCl (wM ct g n dc pa va dl ge su mk dp sq tc kp (gof x1 x2 x3)) H := hP
        have hD : va_D A (wM ct g n dc pa va dl ge su mk dp sq tc kp (gof x1 x2 x3)) := hD
        refine lv_aload_n hx hb dX4_goes_29 rfl (lv_at hl 0 rfl) ?_
        refine va_get (D := D) (ci := 4) (v := .int (gof x1 x2 x3)) (C := RX4) (T := TX4) (N := 13) hx hb hts (fun _ h => List.mem_cons_of_mem _ (List.mem_append_right _ h)) hown hK.1 hP 0 rfl rfl 12 (by decide) (hts (.fieldLink RX4 44 "RevisionStoresModel" "last" "I") (List.mem_of_getElem? (i := 1) rfl)) (fun _ h9 => h9) rfl dX4_goes_30 ?_
        refine lv_if_ne (x := gof x1 x2 x3) (tgt := 40) hx hb dX4_goes_33 (by decide) (fun c33 => ?_) (fun c33 => ?_)
        · refine lv_iconst (v := nI 0) hx hb dX4_goes_40 (by decide) ?_
          refine r_top (y := bI (x1 && (x2 && x3))) (congrArg bI (show false = (x1 && (x2 && x3)) from by first | exact (gof0 c33).symm | exact (gof1 c33).symm)) ?_
          exact W.zret hx hb hr (bI_narrow _) (fun t ht hW => ⟨⟨_, (), rfl, rfl, by show va_P D vwCl _ t.heap; rw [ht]; exact hP⟩, hS.F ht⟩) hS.2.2 dX4_goes_41
        · refine lv_iconst (v := nI 1) hx hb dX4_goes_36 (by decide) ?_
          refine lv_goto (tgt := 41) hx hb dX4_goes_37 (by decide) ?_
          refine r_top (y := bI (x1 && (x2 && x3))) (congrArg bI (show true = (x1 && (x2 && x3)) from by first | exact (gof0 c33).symm | exact (gof1 c33).symm)) ?_
          exact W.zret hx hb hr (bI_narrow _) (fun t ht hW => ⟨⟨_, (), rfl, rfl, by show va_P D vwCl _ t.heap; rw [ht]; exact hP⟩, hS.F ht⟩) hS.2.2 dX4_goes_41
      · refine lv_iconst (v := nI 0) hx hb dX4_goes_21 (by decide) ?_
        refine lv_goto (tgt := 26) hx hb dX4_goes_22 (by decide) ?_
        refine r_top (y := gof x1 x2 x3) (by simp [gof, c2, c10, c18]) ?_
        refine va_put (D := D) (ci := 4) (v := .int (gof x1 x2 x3)) (ty := .int) (C := RX4) (T := TX4) (N := 13) hx hb hts (fun _ h => List.mem_cons_of_mem _ (List.mem_append_right _ h)) tyX4 tyX4_ok nmX4 hown hK.1 hP hD hS 0 rfl rfl 12 (by decide) (hts (.fieldLink RX4 44 "RevisionStoresModel" "last" "I") (List.mem_of_getElem? (i := 1) rfl)) (fun _ h9 => h9) rfl (by decide +kernel) rfl rfl (Nat.le_of_ble_eq_true rfl) dX4_goes_26 (fun H locs hP hD hS => ?_)
        have hP : va_P D vwCl (wM ct g n dc pa va dl ge su mk dp sq tc kp (gof x1 x2 x3)) H := hP
        have hD : va_D A (wM ct g n dc pa va dl ge su mk dp sq tc kp (gof x1 x2 x3)) := hD
        refine lv_aload_n hx hb dX4_goes_29 rfl (lv_at hl 0 rfl) ?_
        refine va_get (D := D) (ci := 4) (v := .int (gof x1 x2 x3)) (C := RX4) (T := TX4) (N := 13) hx hb hts (fun _ h => List.mem_cons_of_mem _ (List.mem_append_right _ h)) hown hK.1 hP 0 rfl rfl 12 (by decide) (hts (.fieldLink RX4 44 "RevisionStoresModel" "last" "I") (List.mem_of_getElem? (i := 1) rfl)) (fun _ h9 => h9) rfl dX4_goes_30 ?_
        refine lv_if_ne (x := gof x1 x2 x3) (tgt := 40) hx hb dX4_goes_33 (by decide) (fun c33 => ?_) (fun c33 => ?_)
        · refine lv_iconst (v := nI 0) hx hb dX4_goes_40 (by decide) ?_
          refine r_top (y := bI (x1 && (x2 && x3))) (congrArg bI (show false = (x1 && (x2 && x3)) from by first | exact (gof0 c33).symm | exact (gof1 c33).symm)) ?_
          exact W.zret hx hb hr (bI_narrow _) (fun t ht hW => ⟨⟨_, (), rfl, rfl, by show va_P D vwCl _ t.heap; rw [ht]; exact hP⟩, hS.F ht⟩) hS.2.2 dX4_goes_41
        · refine lv_iconst (v := nI 1) hx hb dX4_goes_36 (by decide) ?_
          refine lv_goto (tgt := 41) hx hb dX4_goes_37 (by decide) ?_
          refine r_top (y := bI (x1 && (x2 && x3))) (congrArg bI (show true = (x1 && (x2 && x3)) from by first | exact (gof0 c33).symm | exact (gof1 c33).symm)) ?_
          exact W.zret hx hb hr (bI_narrow _) (fun t ht hW => ⟨⟨_, (), rfl, rfl, by show va_P D vwCl _ t.heap; rw [ht]; exact hP⟩, hS.F ht⟩) hS.2.2 dX4_goes_41
    · refine lv_iconst (v := nI 2) hx hb dX4_goes_13 (by decide) ?_
      refine lv_goto (tgt := 26) hx hb dX4_goes_14 (by decide) ?_
      refine r_top (y := gof x1 x2 x3) (by simp [gof, c2, c10]) ?_
      refine va_put (D := D) (ci := 4) (v := .int (gof x1 x2 x3)) (ty := .int) (C := RX4) (T := TX4) (N := 13) hx hb hts (fun _ h => List.mem_cons_of_mem _ (List.mem_append_right _ h)) tyX4 tyX4_ok nmX4 hown hK.1 hP hD hS 0 rfl rfl 12 (by decide) (hts (.fieldLink RX4 44 "RevisionStoresModel" "last" "I") (List.mem_of_getElem? (i := 1) rfl)) (fun _ h9 => h9) rfl (by decide +kernel) rfl rfl (Nat.le_of_ble_eq_true rfl) dX4_goes_26 (fun H locs hP hD hS => ?_)
      have hP : va_P D vwCl (wM ct g n dc pa va dl ge su mk dp sq tc kp (gof x1 x2 x3)) H := hP
      have hD : va_D A (wM ct g n dc pa va dl ge su mk dp sq tc kp (gof x1 x2 x3)) := hD
      refine lv_aload_n hx hb dX4_goes_29 rfl (lv_at hl 0 rfl) ?_
      refine va_get (D := D) (ci := 4) (v := .int (gof x1 x2 x3)) (C := RX4) (T := TX4) (N := 13) hx hb hts (fun _ h => List.mem_cons_of_mem _ (List.mem_append_right _ h)) hown hK.1 hP 0 rfl rfl 12 (by decide) (hts (.fieldLink RX4 44 "RevisionStoresModel" "last" "I") (List.mem_of_getElem? (i := 1) rfl)) (fun _ h9 => h9) rfl dX4_goes_30 ?_
      refine lv_if_ne (x := gof x1 x2 x3) (tgt := 40) hx hb dX4_goes_33 (by decide) (fun c33 => ?_) (fun c33 => ?_)
      · refine lv_iconst (v := nI 0) hx hb dX4_goes_40 (by decide) ?_
        refine r_top (y := bI (x1 && (x2 && x3))) (congrArg bI (show false = (x1 && (x2 && x3)) from by first | exact (gof0 c33).symm | exact (gof1 c33).symm)) ?_
        exact W.zret hx hb hr (bI_narrow _) (fun t ht hW => ⟨⟨_, (), rfl, rfl, by show va_P D vwCl _ t.heap; rw [ht]; exact hP⟩, hS.F ht⟩) hS.2.2 dX4_goes_41
      · refine lv_iconst (v := nI 1) hx hb dX4_goes_36 (by decide) ?_
        refine lv_goto (tgt := 41) hx hb dX4_goes_37 (by decide) ?_
        refine r_top (y := bI (x1 && (x2 && x3))) (congrArg bI (show true = (x1 && (x2 && x3)) from by first | exact (gof0 c33).symm | exact (gof1 c33).symm)) ?_
        exact W.zret hx hb hr (bI_narrow _) (fun t ht hW => ⟨⟨_, (), rfl, rfl, by show va_P D vwCl _ t.heap; rw [ht]; exact hP⟩, hS.F ht⟩) hS.2.2 dX4_goes_41
  · refine lv_iconst (v := nI 1) hx hb dX4_goes_5 (by decide) ?_
    refine lv_goto (tgt := 26) hx hb dX4_goes_6 (by decide) ?_
    refine r_top (y := gof x1 x2 x3) (by simp [gof, c2]) ?_
    refine va_put (D := D) (ci := 4) (v := .int (gof x1 x2 x3)) (ty := .int) (C := RX4) (T := TX4) (N := 13) hx hb hts (fun _ h => List.mem_cons_of_mem _ (List.mem_append_right _ h)) tyX4 tyX4_ok nmX4 hown hK.1 hP hD hS 0 rfl rfl 12 (by decide) (hts (.fieldLink RX4 44 "RevisionStoresModel" "last" "I") (List.mem_of_getElem? (i := 1) rfl)) (fun _ h9 => h9) rfl (by decide +kernel) rfl rfl (Nat.le_of_ble_eq_true rfl) dX4_goes_26 (fun H locs hP hD hS => ?_)
    have hP : va_P D vwCl (wM ct g n dc pa va dl ge su mk dp sq tc kp (gof x1 x2 x3)) H := hP
    have hD : va_D A (wM ct g n dc pa va dl ge su mk dp sq tc kp (gof x1 x2 x3)) := hD
    refine lv_aload_n hx hb dX4_goes_29 rfl (lv_at hl 0 rfl) ?_
    refine va_get (D := D) (ci := 4) (v := .int (gof x1 x2 x3)) (C := RX4) (T := TX4) (N := 13) hx hb hts (fun _ h => List.mem_cons_of_mem _ (List.mem_append_right _ h)) hown hK.1 hP 0 rfl rfl 12 (by decide) (hts (.fieldLink RX4 44 "RevisionStoresModel" "last" "I") (List.mem_of_getElem? (i := 1) rfl)) (fun _ h9 => h9) rfl dX4_goes_30 ?_
    refine lv_if_ne (x := gof x1 x2 x3) (tgt := 40) hx hb dX4_goes_33 (by decide) (fun c33 => ?_) (fun c33 => ?_)
    · refine lv_iconst (v := nI 0) hx hb dX4_goes_40 (by decide) ?_
      refine r_top (y := bI (x1 && (x2 && x3))) (congrArg bI (show false = (x1 && (x2 && x3)) from by first | exact (gof0 c33).symm | exact (gof1 c33).symm)) ?_
      exact W.zret hx hb hr (bI_narrow _) (fun t ht hW => ⟨⟨_, (), rfl, rfl, by show va_P D vwCl _ t.heap; rw [ht]; exact hP⟩, hS.F ht⟩) hS.2.2 dX4_goes_41
    · refine lv_iconst (v := nI 1) hx hb dX4_goes_36 (by decide) ?_
      refine lv_goto (tgt := 41) hx hb dX4_goes_37 (by decide) ?_
      refine r_top (y := bI (x1 && (x2 && x3))) (congrArg bI (show true = (x1 && (x2 && x3)) from by first | exact (gof0 c33).symm | exact (gof1 c33).symm)) ?_
      exact W.zret hx hb hr (bI_narrow _) (fun t ht hW => ⟨⟨_, (), rfl, rfl, by show va_P D vwCl _ t.heap; rw [ht]; exact hP⟩, hS.F ht⟩) hS.2.2 dX4_goes_41
set_option maxHeartbeats 8000000 in
set_option maxRecDepth 100000 in
theorem cX4_isAncestor_ok (l : Launch) (D : va_G) (ct : Nat → ClassId) (g : Nat → Nat) (n : Nat) (dc : Nat → Nat) (pa : Nat → Option Nat) (va : Nat → Int32) (dl : Nat → Bool) (ge : Nat → Nat) (su : Nat → Int32) (mk : Nat → Bool) (dp : Nat → Int32) (sq : Nat → Int32) (tc : Nat → Int32) (kp : Nat → Int32) (la : Int32) (r : Nat) (k : Nat) (hn : n ≤ 150) (hTp : ∀ k j, k < n → pa k = some j → j < k) (hk : k < n) (hr9 : r < 150) : Met l yX4_isAncestor wsX4_isAncestor ({ frames := 0, cells := 0, slots := 0, locals := 0 } : Room) (roPc D ct [.ref (g 0), .int (nI r), .int (nI k)] (wM ct g n dc pa va dl ge su mk dp sq tc kp la)) (rqI (bI (anc pa r k))) 0 0 (fun _ => False) := by
  refine Met.ofW (cc := cX4_isAncestor) (maxL := 4) (ret := (some .boolean)) (by decide) rfl ?_
  intro p e s m args below meth c s₁ B hml hv
  obtain ⟨rfl, hP, hK⟩ := hv
  have hx := B.exec
  have hb := B.bytes
  have hr := B.returns
  have hts := atoms_spec (ws := wsX4_isAncestor) B.pre
  have hown : s.vm.findClass RX4 = some m.cls := findClass_of_methodNamed B.named
  have hlocks := B.notSynchronized
  have hl := lv_entry ([.ref (g 0), .int (nI r), .int (nI k)]) (n := 4) (Nat.le_of_ble_eq_true rfl)
  rw [lg_entry_eq]
  generalize (lg_sl ([.ref (g 0), .int (nI r), .int (nI k)]) ++ List.replicate (4 - (lg_sl ([.ref (g 0), .int (nI r), .int (nI k)])).length) Slot.unset).toArray = ls at hl ⊢
  have hl : lv_has ls 4 [(0, .ref (g 0)), (1, .int (nI r)), (2, .int (nI k))] := hl
  refine lv_iload_n hx hb dX4_isAncestor_0 rfl (lv_at hl 2 rfl) ?_
  refine lv_istore_n (lv' := [(3, .int (nI k)), (0, .ref (g 0)), (1, .int (nI r)), (2, .int (nI k))]) hx hb dX4_isAncestor_1 rfl hl (by decide) rfl (fun ls hl => ?_)
  have key2 : ∀ (d2 : Nat) (o : Option Nat) (f : Nat) (ho : ∀ j, o = some j → j < n) (hf : ∀ j, o = some j → j < f) (hq : wk pa r f o = wk pa r 150 (some k)), f < d2 → ∀  (ls : Array Slot), lv_has ls 4 [(3, .int (eP o)), (0, .ref (g 0)), (1, .int (nI r)), (2, .int (nI k))] → W p l e ({ frames := 0, cells := 0, slots := 0, locals := 0 } : Room) s m ([.ref (g 0), .int (nI r), .int (nI k)] : List Value).toArray below meth c s.heap [] 0 0 (MQ below (rqI (bI (anc pa r k))) ([.ref (g 0), .int (nI r), .int (nI k)] : List Value).toArray s 0 0 (fun _ => False)) (F0 m 2 ls []) := by
    intro d2
    induction d2 with
    | zero => intro o f ho hf hq h9; exact absurd h9 (Nat.not_lt_zero _)
    | succ d2 ih2 =>
      intro o f ho hf hq hm2  ls  hl
      refine lv_iload_n hx hb dX4_isAncestor_2 rfl (lv_at hl 0 rfl) ?_
      refine lv_iload_n hx hb dX4_isAncestor_3 rfl (lv_at hl 2 rfl) ?_
      refine r_icmp_leP hx hb (x := o) (y := r) (by intro j9 h9; have := ho _ h9; omega) (by first | omega | decide) (tgt := 17) dX4_isAncestor_4 (by decide) (fun c4 => ?_) (fun j4 c4 g4 => ?_)
      · refine lv_iload_n hx hb dX4_isAncestor_17 rfl (lv_at hl 0 rfl) ?_
        refine lv_iload_n hx hb dX4_isAncestor_18 rfl (lv_at hl 2 rfl) ?_
        refine r_icmp_nePN hx hb (x := o) (y := r) (by intro j9 h9; have := ho _ h9; omega) (by first | omega | decide) (tgt := 31) dX4_isAncestor_19 (by decide) (fun c19 => ?_) (fun c19 => ?_)
        · refine lv_iconst (v := nI 0) hx hb dX4_isAncestor_31 (by decide) ?_
          refine r_top (y := bI (anc pa r k)) (congrArg bI (show false = (anc pa r k) from by have e9 := wk_stop (pa := pa) c4 f; rw [hq] at e9; first | (simp [anc, e9, c19, c24]; done) | (simp [anc, e9, c19]; done))) ?_
          exact W.zret hx hb hr (bI_narrow _) (fun t ht hW => ⟨_, rfl, rfl, ht⟩) (fun _ h => by cases h) dX4_isAncestor_32
        · refine lv_iload_n hx hb dX4_isAncestor_22 rfl (lv_at hl 3 rfl) ?_
          refine lv_iload_n hx hb dX4_isAncestor_23 rfl (lv_at hl 2 rfl) ?_
          refine r_icmp_eqN hx hb (x := k) (y := r) (by first | omega | decide) (by first | omega | decide) (tgt := 31) dX4_isAncestor_24 (by decide) (fun c24 => ?_) (fun c24 => ?_)
          · refine lv_iconst (v := nI 0) hx hb dX4_isAncestor_31 (by decide) ?_
            refine r_top (y := bI (anc pa r k)) (congrArg bI (show false = (anc pa r k) from by have e9 := wk_stop (pa := pa) c4 f; rw [hq] at e9; first | (simp [anc, e9, c19, c24]; done) | (simp [anc, e9, c19]; done))) ?_
            exact W.zret hx hb hr (bI_narrow _) (fun t ht hW => ⟨_, rfl, rfl, ht⟩) (fun _ h => by cases h) dX4_isAncestor_32
          · refine lv_iconst (v := nI 1) hx hb dX4_isAncestor_27 (by decide) ?_
            refine lv_goto (tgt := 32) hx hb dX4_isAncestor_28 (by decide) ?_
            refine r_top (y := bI (anc pa r k)) (congrArg bI (show true = (anc pa r k) from by have e9 := wk_stop (pa := pa) c4 f; rw [hq] at e9; first | (simp [anc, e9, c19, c24]; done) | (simp [anc, e9, c19]; done))) ?_
            exact W.zret hx hb hr (bI_narrow _) (fun t ht hW => ⟨_, rfl, rfl, ht⟩) (fun _ h => by cases h) dX4_isAncestor_32
      · have hl := lv_re (f := fun z9 => [(3, .int z9), (0, .ref (g 0)), (1, .int (nI r)), (2, .int (nI k))]) hl (show eP o = nI j4 from congrArg eP c4)
        have e7 := ho _ c4
        have e8 := hf _ c4
        refine lv_aload_n hx hb dX4_isAncestor_7 rfl (lv_at hl 1 rfl) ?_
        refine va_get (D := D) (ci := 4) (v := .ref (g 2)) (C := RX4) (T := TX4) (N := 13) hx hb hts (fun _ h => List.mem_cons_of_mem _ (List.mem_append_right _ h)) hown hK.1 hP 0 rfl rfl 1 (by decide) (hts (.fieldLink RX4 13 "RevisionStoresModel" "parents" "[I") (List.mem_of_getElem? (i := 1) rfl)) (fun _ h9 => h9) rfl dX4_isAncestor_8 ?_
        refine lv_iload_n hx hb dX4_isAncestor_11 rfl (lv_at hl 0 rfl) ?_
        refine r_iald (j := j4) (v := eP (pa j4)) hx hb hK.1 hP 2 0 rfl rfl (by omega) (by first | decide | omega) rfl dX4_isAncestor_12 ?_
        refine lv_istore_n (lv' := [(3, .int (eP (pa j4))), (0, .ref (g 0)), (1, .int (nI r)), (2, .int (nI k))]) hx hb dX4_isAncestor_13 rfl hl (by decide) rfl (fun ls hl => ?_)
        refine lv_goto (tgt := 2) hx hb dX4_isAncestor_14 (by decide) ?_
        exact ih2 (pa j4) (f - 1) (by intro j9 h9; have := hTp _ _ e7 h9; omega) (by intro j9 h9; have := hTp _ _ e7 h9; omega) (by obtain ⟨g, rfl⟩ : ∃ g, f = g + 1 := ⟨f - 1, by omega⟩; rw [c4, wk_up g4] at hq; exact hq) (by omega)  ls  (lv_sub hl [0, 1, 2, 3] rfl)
  exact key2 (150 + 1) (some k) 150 (by intro j9 h9; cases h9; exact hk) (by intro j9 h9; cases h9; omega) (rfl) (Nat.lt_succ_self _)  ls  (lv_sub hl [0, 1, 2, 3] rfl)
set_option maxHeartbeats 8000000 in
set_option maxRecDepth 100000 in
theorem cX4_hasDescendant_ok (l : Launch) (D : va_G) (ct : Nat → ClassId) (g : Nat → Nat) (n : Nat) (dc : Nat → Nat) (pa : Nat → Option Nat) (va : Nat → Int32) (dl : Nat → Bool) (ge : Nat → Nat) (su : Nat → Int32) (mk : Nat → Bool) (dp : Nat → Int32) (sq : Nat → Int32) (tc : Nat → Int32) (kp : Nat → Int32) (la : Int32) (i : Nat) (r : Nat) (hn : n ≤ 150) (hTp : ∀ k j, k < n → pa k = some j → j < k) (hi : i < 3) (hrn : r < n) : Met l yX4_hasDescendant wsX4_hasDescendant ({ frames := 1, cells := 0, slots := 0, locals := 23 } : Room) (roPc D ct [.ref (g 0), .int (nI i), .int (nI r)] (wM ct g n dc pa va dl ge su mk dp sq tc kp la)) (rqI (bI (any (hsP pa mk i r) n))) 0 0 (fun _ => False) := by
  refine Met.ofW (cc := cX4_hasDescendant) (maxL := 5) (ret := (some .boolean)) (by decide) rfl ?_
  intro p e s m args below meth c s₁ B hml hv
  obtain ⟨rfl, hP, hK⟩ := hv
  have hx := B.exec
  have hb := B.bytes
  have hr := B.returns
  have hts := atoms_spec (ws := wsX4_hasDescendant) B.pre
  have hown : s.vm.findClass RX4 = some m.cls := findClass_of_methodNamed B.named
  have hlocks := B.notSynchronized
  have hl := lv_entry ([.ref (g 0), .int (nI i), .int (nI r)]) (n := 5) (Nat.le_of_ble_eq_true rfl)
  rw [lg_entry_eq]
  generalize (lg_sl ([.ref (g 0), .int (nI i), .int (nI r)]) ++ List.replicate (5 - (lg_sl ([.ref (g 0), .int (nI i), .int (nI r)])).length) Slot.unset).toArray = ls at hl ⊢
  have hl : lv_has ls 5 [(0, .ref (g 0)), (1, .int (nI i)), (2, .int (nI r))] := hl
  refine lv_iconst (v := nI 0) hx hb dX4_hasDescendant_0 (by decide) ?_
  refine lv_istore_n (lv' := [(3, .int (nI 0)), (0, .ref (g 0)), (1, .int (nI i)), (2, .int (nI r))]) hx hb dX4_hasDescendant_1 rfl hl (by decide) rfl (fun ls hl => ?_)
  refine lv_iload_n hx hb dX4_hasDescendant_2 rfl (lv_at hl 3 rfl) ?_
  refine lv_iconst (v := nI 1) hx hb dX4_hasDescendant_3 (by decide) ?_
  refine r_iaddN hx hb dX4_hasDescendant_4 ?_
  refine lv_istore (lv' := [(4, .int (nI (r + 1))), (3, .int (nI 0)), (0, .ref (g 0)), (1, .int (nI i)), (2, .int (nI r))]) hx hb dX4_hasDescendant_5 hl (by decide) rfl (fun ls hl => ?_)
  have key7 : ∀ (d7 : Nat) (k : Nat) (hk : k ≤ n), n - k < d7 → ∀  (ls : Array Slot), lv_has ls 5 [(4, .int (nI k)), (3, .int (bI (any (hsP pa mk i r) k))), (0, .ref (g 0)), (1, .int (nI i)), (2, .int (nI r))] → W p l e ({ frames := 1, cells := 0, slots := 0, locals := 23 } : Room) s m ([.ref (g 0), .int (nI i), .int (nI r)] : List Value).toArray below meth c s.heap [] 0 0 (MQ below (rqI (bI (any (hsP pa mk i r) n))) ([.ref (g 0), .int (nI i), .int (nI r)] : List Value).toArray s 0 0 (fun _ => False)) (F0 m 7 ls []) := by
    intro d7
    induction d7 with
    | zero => intro k hk h9; exact absurd h9 (Nat.not_lt_zero _)
    | succ d7 ih7 =>
      intro k hk hm7  ls  hl
      refine lv_iload hx hb dX4_hasDescendant_7 (lv_at hl 0 rfl) ?_
      refine lv_aload_n hx hb dX4_hasDescendant_9 rfl (lv_at hl 2 rfl) ?_
      refine va_get (D := D) (ci := 4) (v := .int (nI n)) (C := RX4) (T := TX4) (N := 13) hx hb hts (fun _ h => List.mem_cons_of_mem _ (List.mem_append_right _ h)) hown hK.1 hP 0 rfl rfl 6 (by decide) (hts (.fieldLink RX4 52 "RevisionStoresModel" "revisions" "I") (List.mem_of_getElem? (i := 1) rfl)) (fun _ h9 => h9) rfl dX4_hasDescendant_10 ?_
      refine r_icmp_geN hx hb (x := k) (y := n) (by first | omega | decide) (by first | omega | decide) (tgt := 58) dX4_hasDescendant_13 (by decide) (fun c13 => ?_) (fun c13 => ?_)
      · refine lv_iload_n hx hb dX4_hasDescendant_58 rfl (lv_at hl 1 rfl) ?_
        refine r_top (y := bI (any (hsP pa mk i r) n)) (congrArg bI (show (any (hsP pa mk i r) k) = (any (hsP pa mk i r) n) from by rw [show k = n by omega])) ?_
        exact W.zret hx hb hr (bI_narrow _) (fun t ht hW => ⟨_, rfl, rfl, ht⟩) (fun _ h => by cases h) dX4_hasDescendant_59
      · refine lv_iload_n hx hb dX4_hasDescendant_16 rfl (lv_at hl 1 rfl) ?_
        refine r_if_neB (x := any (hsP pa mk i r) k) (tgt := 46) hx hb dX4_hasDescendant_17 (by decide) (fun c17 => ?_) (fun c17 => ?_)
        · refine lv_iconst (v := nI 1) hx hb dX4_hasDescendant_46 (by decide) ?_
          refine lv_goto (tgt := 51) hx hb dX4_hasDescendant_47 (by decide) ?_
          refine lv_istore_n (lv' := [(3, .int (nI 1)), (4, .int (nI k)), (0, .ref (g 0)), (1, .int (nI i)), (2, .int (nI r))]) hx hb dX4_hasDescendant_51 rfl hl (by decide) rfl (fun ls hl => ?_)
          refine lv_iinc (v := nI (k + 1)) (lv' := [(4, .int (nI (k + 1))), (3, .int (nI 1)), (0, .ref (g 0)), (1, .int (nI i)), (2, .int (nI r))]) hx hb dX4_hasDescendant_52 hl (k := 1) rfl (nI_1 _) (by decide) rfl (fun ls hl => ?_)
          refine lv_goto (tgt := 7) hx hb dX4_hasDescendant_55 (by decide) ?_
          have hl := lv_re (f := fun z9 => [(4, .int (nI (k + 1))), (3, .int z9), (0, .ref (g 0)), (1, .int (nI i)), (2, .int (nI r))]) hl (show nI 1 = bI (any (hsP pa mk i r) (k + 1)) from congrArg bI (show true = (any (hsP pa mk i r) (k + 1)) from by simp [any, hsP, c13, c17]))
          exact ih7 (k + 1) (by first | assumption | omega) (by omega)  ls  (lv_sub hl [0, 1, 2, 3, 4] rfl)
        · refine lv_aload_n hx hb dX4_hasDescendant_20 rfl (lv_at hl 2 rfl) ?_
          refine va_get (D := D) (ci := 4) (v := .ref (g 7)) (C := RX4) (T := TX4) (N := 13) hx hb hts (fun _ h => List.mem_cons_of_mem _ (List.mem_append_right _ h)) hown hK.1 hP 0 rfl rfl 7 (by decide) (hts (.fieldLink RX4 29 "RevisionStoresModel" "marks" "[Z") (List.mem_of_getElem? (i := 2) rfl)) (fun _ h9 => h9) rfl dX4_hasDescendant_21 ?_
          refine lv_sipush (v := nI 150) hx hb dX4_hasDescendant_24 (by decide) ?_
          refine lv_iload_n hx hb dX4_hasDescendant_27 rfl (lv_at hl 3 rfl) ?_
          refine r_imulN hx hb dX4_hasDescendant_28 ?_
          refine lv_iload hx hb dX4_hasDescendant_29 (lv_at hl 0 rfl) ?_
          refine r_iaddN hx hb dX4_hasDescendant_31 ?_
          refine r_zald (j := (150 * i) + k) (v := bI (mk ((150 * i) + k))) hx hb hK.1 hP 7 1 rfl rfl (by omega) (by first | decide | omega) rfl dX4_hasDescendant_32 ?_
          refine r_if_eqB (x := mk ((150 * i) + k)) (tgt := 50) hx hb dX4_hasDescendant_33 (by decide) (fun c33 => ?_) (fun c33 => ?_)
          · refine lv_iconst (v := nI 0) hx hb dX4_hasDescendant_50 (by decide) ?_
            refine lv_istore_n (lv' := [(3, .int (nI 0)), (4, .int (nI k)), (0, .ref (g 0)), (1, .int (nI i)), (2, .int (nI r))]) hx hb dX4_hasDescendant_51 rfl hl (by decide) rfl (fun ls hl => ?_)
            refine lv_iinc (v := nI (k + 1)) (lv' := [(4, .int (nI (k + 1))), (3, .int (nI 0)), (0, .ref (g 0)), (1, .int (nI i)), (2, .int (nI r))]) hx hb dX4_hasDescendant_52 hl (k := 1) rfl (nI_1 _) (by decide) rfl (fun ls hl => ?_)
            refine lv_goto (tgt := 7) hx hb dX4_hasDescendant_55 (by decide) ?_
            have hl := lv_re (f := fun z9 => [(4, .int (nI (k + 1))), (3, .int z9), (0, .ref (g 0)), (1, .int (nI i)), (2, .int (nI r))]) hl (show nI 0 = bI (any (hsP pa mk i r) (k + 1)) from congrArg bI (show false = (any (hsP pa mk i r) (k + 1)) from by simp [any, hsP, c13, c17, c33]))
            exact ih7 (k + 1) (by first | assumption | omega) (by omega)  ls  (lv_sub hl [0, 1, 2, 3, 4] rfl)
          · refine lv_aload_n hx hb dX4_hasDescendant_36 rfl (lv_at hl 2 rfl) ?_
            refine lv_iload_n hx hb dX4_hasDescendant_37 rfl (lv_at hl 4 rfl) ?_
            refine lv_iload hx hb dX4_hasDescendant_38 (lv_at hl 0 rfl) ?_
            refine r_cV (As := [.int (nI r), .int (nI k)]) (rest := []) ⟨hx, hb, hml, hown, hts⟩ (cX4_isAncestor_ok l D ct g n dc pa va dl ge su mk dp sq tc kp la r k (by first | assumption | omega) (by first | assumption | omega) (by first | assumption | omega) (by first | assumption | omega)) (cwV 2 hts gX4_hasDescendant_X4_isAncestor rfl rfl rfl (by decide +kernel) ⟨Nat.le_of_ble_eq_true rfl, Nat.le_of_ble_eq_true rfl⟩) hK (hP.sub (ws' := wM ct g n dc pa va dl ge su mk dp sq tc kp la) [0, 1, 2, 3, 4, 5, 6, 7, 8, 9, 10, 11] rfl) 0 4 rfl rfl rfl hl.1 rfl (Nat.le_of_ble_eq_true rfl) dX4_hasDescendant_40 ⟨Nat.le_of_ble_eq_true rfl, Nat.le_of_ble_eq_true rfl⟩ ?_
            refine r_if_eqB (x := anc pa r k) (tgt := 50) hx hb dX4_hasDescendant_43 (by decide) (fun c43 => ?_) (fun c43 => ?_)
            · refine lv_iconst (v := nI 0) hx hb dX4_hasDescendant_50 (by decide) ?_
              refine lv_istore_n (lv' := [(3, .int (nI 0)), (4, .int (nI k)), (0, .ref (g 0)), (1, .int (nI i)), (2, .int (nI r))]) hx hb dX4_hasDescendant_51 rfl hl (by decide) rfl (fun ls hl => ?_)
              refine lv_iinc (v := nI (k + 1)) (lv' := [(4, .int (nI (k + 1))), (3, .int (nI 0)), (0, .ref (g 0)), (1, .int (nI i)), (2, .int (nI r))]) hx hb dX4_hasDescendant_52 hl (k := 1) rfl (nI_1 _) (by decide) rfl (fun ls hl => ?_)
              refine lv_goto (tgt := 7) hx hb dX4_hasDescendant_55 (by decide) ?_
              have hl := lv_re (f := fun z9 => [(4, .int (nI (k + 1))), (3, .int z9), (0, .ref (g 0)), (1, .int (nI i)), (2, .int (nI r))]) hl (show nI 0 = bI (any (hsP pa mk i r) (k + 1)) from congrArg bI (show false = (any (hsP pa mk i r) (k + 1)) from by simp [any, hsP, c13, c17, c33, c43]))
              exact ih7 (k + 1) (by first | assumption | omega) (by omega)  ls  (lv_sub hl [0, 1, 2, 3, 4] rfl)
            · refine lv_iconst (v := nI 1) hx hb dX4_hasDescendant_46 (by decide) ?_
              refine lv_goto (tgt := 51) hx hb dX4_hasDescendant_47 (by decide) ?_
              refine lv_istore_n (lv' := [(3, .int (nI 1)), (4, .int (nI k)), (0, .ref (g 0)), (1, .int (nI i)), (2, .int (nI r))]) hx hb dX4_hasDescendant_51 rfl hl (by decide) rfl (fun ls hl => ?_)
              refine lv_iinc (v := nI (k + 1)) (lv' := [(4, .int (nI (k + 1))), (3, .int (nI 1)), (0, .ref (g 0)), (1, .int (nI i)), (2, .int (nI r))]) hx hb dX4_hasDescendant_52 hl (k := 1) rfl (nI_1 _) (by decide) rfl (fun ls hl => ?_)
              refine lv_goto (tgt := 7) hx hb dX4_hasDescendant_55 (by decide) ?_
              have hl := lv_re (f := fun z9 => [(4, .int (nI (k + 1))), (3, .int z9), (0, .ref (g 0)), (1, .int (nI i)), (2, .int (nI r))]) hl (show nI 1 = bI (any (hsP pa mk i r) (k + 1)) from congrArg bI (show true = (any (hsP pa mk i r) (k + 1)) from by simp [any, hsP, c13, c17, c33, c43]))
              exact ih7 (k + 1) (by first | assumption | omega) (by omega)  ls  (lv_sub hl [0, 1, 2, 3, 4] rfl)
  have hl := lv_re (f := fun z9 => [(4, .int (nI (r + 1))), (3, .int z9), (0, .ref (g 0)), (1, .int (nI i)), (2, .int (nI r))]) hl (show nI 0 = bI (any (hsP pa mk i r) (r + 1)) from congrArg bI (show false = (any (hsP pa mk i r) (r + 1)) from (hsP_0 pa mk i r).symm))
  exact key7 ((n - (r + 1)) + 1) (r + 1) (by first | assumption | omega) (Nat.lt_succ_self _)  ls  (lv_sub hl [0, 1, 2, 3, 4] rfl)
set_option maxHeartbeats 8000000 in
set_option maxRecDepth 100000 in
theorem cX4_leaf_ok (l : Launch) (D : va_G) (ct : Nat → ClassId) (g : Nat → Nat) (n : Nat) (dc : Nat → Nat) (pa : Nat → Option Nat) (va : Nat → Int32) (dl : Nat → Bool) (ge : Nat → Nat) (su : Nat → Int32) (mk : Nat → Bool) (dp : Nat → Int32) (sq : Nat → Int32) (tc : Nat → Int32) (kp : Nat → Int32) (la : Int32) (i : Nat) (r : Nat) (hn : n ≤ 150) (hTp : ∀ k j, k < n → pa k = some j → j < k) (hi : i < 3) (hrn : r < n) : Met l yX4_leaf wsX4_leaf ({ frames := 2, cells := 0, slots := 0, locals := 47 } : Room) (roPc D ct [.ref (g 0), .int (nI i), .int (nI r)] (wM ct g n dc pa va dl ge su mk dp sq tc kp la)) (rqI (bI (lef pa mk i n r))) 0 0 (fun _ => False) := by
  refine Met.ofW (cc := cX4_leaf) (maxL := 3) (ret := (some .boolean)) (by decide) rfl ?_
  intro p e s m args below meth c s₁ B hml hv
  obtain ⟨rfl, hP, hK⟩ := hv
  have hx := B.exec
  have hb := B.bytes
  have hr := B.returns
  have hts := atoms_spec (ws := wsX4_leaf) B.pre
  have hown : s.vm.findClass RX4 = some m.cls := findClass_of_methodNamed B.named
  have hlocks := B.notSynchronized
  have hl := lv_entry ([.ref (g 0), .int (nI i), .int (nI r)]) (n := 3) (Nat.le_of_ble_eq_true rfl)
  rw [lg_entry_eq]
  generalize (lg_sl ([.ref (g 0), .int (nI i), .int (nI r)]) ++ List.replicate (3 - (lg_sl ([.ref (g 0), .int (nI i), .int (nI r)])).length) Slot.unset).toArray = ls at hl ⊢
  have hl : lv_has ls 3 [(0, .ref (g 0)), (1, .int (nI i)), (2, .int (nI r))] := hl
  refine lv_aload_n hx hb dX4_leaf_0 rfl (lv_at hl 0 rfl) ?_
  refine va_get (D := D) (ci := 4) (v := .ref (g 7)) (C := RX4) (T := TX4) (N := 13) hx hb hts (fun _ h => List.mem_cons_of_mem _ (List.mem_append_right _ h)) hown hK.1 hP 0 rfl rfl 7 (by decide) (hts (.fieldLink RX4 29 "RevisionStoresModel" "marks" "[Z") (List.mem_of_getElem? (i := 1) rfl)) (fun _ h9 => h9) rfl dX4_leaf_1 ?_
  refine lv_sipush (v := nI 150) hx hb dX4_leaf_4 (by decide) ?_
  refine lv_iload_n hx hb dX4_leaf_7 rfl (lv_at hl 1 rfl) ?_
  refine r_imulN hx hb dX4_leaf_8 ?_
  refine lv_iload_n hx hb dX4_leaf_9 rfl (lv_at hl 2 rfl) ?_
  refine r_iaddN hx hb dX4_leaf_10 ?_
  refine r_zald (j := (150 * i) + r) (v := bI (mk ((150 * i) + r))) hx hb hK.1 hP 7 1 rfl rfl (by omega) (by first | decide | omega) rfl dX4_leaf_11 ?_
  refine r_if_eqB (x := mk ((150 * i) + r)) (tgt := 28) hx hb dX4_leaf_12 (by decide) (fun c12 => ?_) (fun c12 => ?_)
  · refine lv_iconst (v := nI 0) hx hb dX4_leaf_28 (by decide) ?_
    refine r_top (y := bI (lef pa mk i n r)) (congrArg bI (show false = (lef pa mk i n r) from by simp [lef, c12])) ?_
    exact W.zret hx hb hr (bI_narrow _) (fun t ht hW => ⟨_, rfl, rfl, ht⟩) (fun _ h => by cases h) dX4_leaf_29
  · refine lv_aload_n hx hb dX4_leaf_15 rfl (lv_at hl 0 rfl) ?_
    refine lv_iload_n hx hb dX4_leaf_16 rfl (lv_at hl 1 rfl) ?_
    refine lv_iload_n hx hb dX4_leaf_17 rfl (lv_at hl 2 rfl) ?_
    refine r_cV (As := [.int (nI i), .int (nI r)]) (rest := []) ⟨hx, hb, hml, hown, hts⟩ (cX4_hasDescendant_ok l D ct g n dc pa va dl ge su mk dp sq tc kp la i r (by first | assumption | omega) (by first | assumption | omega) (by first | assumption | omega) (by first | assumption | omega)) (cwV 2 hts gX4_leaf_X4_hasDescendant rfl rfl rfl (by decide +kernel) ⟨Nat.le_of_ble_eq_true rfl, Nat.le_of_ble_eq_true rfl⟩) hK (hP.sub (ws' := wM ct g n dc pa va dl ge su mk dp sq tc kp la) [0, 1, 2, 3, 4, 5, 6, 7, 8, 9, 10, 11] rfl) 0 4 rfl rfl rfl hl.1 rfl (Nat.le_of_ble_eq_true rfl) dX4_leaf_18 ⟨Nat.le_of_ble_eq_true rfl, Nat.le_of_ble_eq_true rfl⟩ ?_
    refine r_if_neB (x := any (hsP pa mk i r) n) (tgt := 28) hx hb dX4_leaf_21 (by decide) (fun c21 => ?_) (fun c21 => ?_)
    · refine lv_iconst (v := nI 0) hx hb dX4_leaf_28 (by decide) ?_
      refine r_top (y := bI (lef pa mk i n r)) (congrArg bI (show false = (lef pa mk i n r) from by simp [lef, c12, c21])) ?_
      exact W.zret hx hb hr (bI_narrow _) (fun t ht hW => ⟨_, rfl, rfl, ht⟩) (fun _ h => by cases h) dX4_leaf_29
    · refine lv_iconst (v := nI 1) hx hb dX4_leaf_24 (by decide) ?_
      refine lv_goto (tgt := 29) hx hb dX4_leaf_25 (by decide) ?_
      refine r_top (y := bI (lef pa mk i n r)) (congrArg bI (show true = (lef pa mk i n r) from by simp [lef, c12, c21])) ?_
      exact W.zret hx hb hr (bI_narrow _) (fun t ht hW => ⟨_, rfl, rfl, ht⟩) (fun _ h => by cases h) dX4_leaf_29
set_option maxHeartbeats 8000000 in
set_option maxRecDepth 100000 in
theorem cX4_isBetter_ok (l : Launch) (D : va_G) (ct : Nat → ClassId) (g : Nat → Nat) (n : Nat) (dc : Nat → Nat) (pa : Nat → Option Nat) (va : Nat → Int32) (dl : Nat → Bool) (ge : Nat → Nat) (su : Nat → Int32) (mk : Nat → Bool) (dp : Nat → Int32) (sq : Nat → Int32) (tc : Nat → Int32) (kp : Nat → Int32) (la : Int32) (i : Nat) (j : Nat) (hTg : ∀ k, ge k ≤ 150) (hi : i < 150) (hj : j < 150) : Met l yX4_isBetter wsX4_isBetter ({ frames := 0, cells := 0, slots := 0, locals := 0 } : Room) (roPc D ct [.ref (g 0), .int (nI i), .int (nI j)] (wM ct g n dc pa va dl ge su mk dp sq tc kp la)) (rqI (bI (btr dl ge su i j))) 0 0 (fun _ => False) := by
  refine Met.ofW (cc := cX4_isBetter) (maxL := 3) (ret := (some .boolean)) (by decide) rfl ?_
  intro p e s m args below meth c s₁ B hml hv
  obtain ⟨rfl, hP, hK⟩ := hv
  have hx := B.exec
  have hb := B.bytes
  have hr := B.returns
  have hts := atoms_spec (ws := wsX4_isBetter) B.pre
  have hown : s.vm.findClass RX4 = some m.cls := findClass_of_methodNamed B.named
  have hlocks := B.notSynchronized
  have hl := lv_entry ([.ref (g 0), .int (nI i), .int (nI j)]) (n := 3) (Nat.le_of_ble_eq_true rfl)
  rw [lg_entry_eq]
  generalize (lg_sl ([.ref (g 0), .int (nI i), .int (nI j)]) ++ List.replicate (3 - (lg_sl ([.ref (g 0), .int (nI i), .int (nI j)])).length) Slot.unset).toArray = ls at hl ⊢
  have hl : lv_has ls 3 [(0, .ref (g 0)), (1, .int (nI i)), (2, .int (nI j))] := hl
  refine lv_aload_n hx hb dX4_isBetter_0 rfl (lv_at hl 0 rfl) ?_
  refine va_get (D := D) (ci := 4) (v := .ref (g 4)) (C := RX4) (T := TX4) (N := 13) hx hb hts (fun _ h => List.mem_cons_of_mem _ (List.mem_append_right _ h)) hown hK.1 hP 0 rfl rfl 3 (by decide) (hts (.fieldLink RX4 19 "RevisionStoresModel" "deletions" "[Z") (List.mem_of_getElem? (i := 1) rfl)) (fun _ h9 => h9) rfl dX4_isBetter_1 ?_
  refine lv_iload_n hx hb dX4_isBetter_4 rfl (lv_at hl 1 rfl) ?_
  refine r_zald (j := i) (v := bI (dl i)) hx hb hK.1 hP 4 1 rfl rfl (by omega) (by first | decide | omega) rfl dX4_isBetter_5 ?_
  refine lv_aload_n hx hb dX4_isBetter_6 rfl (lv_at hl 0 rfl) ?_
  refine va_get (D := D) (ci := 4) (v := .ref (g 4)) (C := RX4) (T := TX4) (N := 13) hx hb hts (fun _ h => List.mem_cons_of_mem _ (List.mem_append_right _ h)) hown hK.1 hP 0 rfl rfl 3 (by decide) (hts (.fieldLink RX4 19 "RevisionStoresModel" "deletions" "[Z") (List.mem_of_getElem? (i := 1) rfl)) (fun _ h9 => h9) rfl dX4_isBetter_7 ?_
  refine lv_iload_n hx hb dX4_isBetter_10 rfl (lv_at hl 2 rfl) ?_
  refine r_zald (j := j) (v := bI (dl j)) hx hb hK.1 hP 4 1 rfl rfl (by omega) (by first | decide | omega) rfl dX4_isBetter_11 ?_
  refine r_icmp_eqB (x := dl i) (y := dl j) (tgt := 30) hx hb dX4_isBetter_12 (by decide) (fun c12 => ?_) (fun c12 => ?_)
  · refine lv_aload_n hx hb dX4_isBetter_30 rfl (lv_at hl 0 rfl) ?_
    refine va_get (D := D) (ci := 4) (v := .ref (g 5)) (C := RX4) (T := TX4) (N := 13) hx hb hts (fun _ h => List.mem_cons_of_mem _ (List.mem_append_right _ h)) hown hK.1 hP 0 rfl rfl 4 (by decide) (hts (.fieldLink RX4 23 "RevisionStoresModel" "generations" "[I") (List.mem_of_getElem? (i := 2) rfl)) (fun _ h9 => h9) rfl dX4_isBetter_31 ?_
    refine lv_iload_n hx hb dX4_isBetter_34 rfl (lv_at hl 1 rfl) ?_
    refine r_iald (j := i) (v := nI (ge i)) hx hb hK.1 hP 5 0 rfl rfl (by omega) (by first | decide | omega) rfl dX4_isBetter_35 ?_
    have f35 := hTg i
    refine lv_aload_n hx hb dX4_isBetter_36 rfl (lv_at hl 0 rfl) ?_
    refine va_get (D := D) (ci := 4) (v := .ref (g 5)) (C := RX4) (T := TX4) (N := 13) hx hb hts (fun _ h => List.mem_cons_of_mem _ (List.mem_append_right _ h)) hown hK.1 hP 0 rfl rfl 4 (by decide) (hts (.fieldLink RX4 23 "RevisionStoresModel" "generations" "[I") (List.mem_of_getElem? (i := 2) rfl)) (fun _ h9 => h9) rfl dX4_isBetter_37 ?_
    refine lv_iload_n hx hb dX4_isBetter_40 rfl (lv_at hl 2 rfl) ?_
    refine r_iald (j := j) (v := nI (ge j)) hx hb hK.1 hP 5 0 rfl rfl (by omega) (by first | decide | omega) rfl dX4_isBetter_41 ?_
    have f41 := hTg j
    refine r_icmp_eqN hx hb (x := ge i) (y := ge j) (by first | omega | decide) (by first | omega | decide) (tgt := 66) dX4_isBetter_42 (by decide) (fun c42 => ?_) (fun c42 => ?_)
    · refine lv_aload_n hx hb dX4_isBetter_66 rfl (lv_at hl 0 rfl) ?_
      refine va_get (D := D) (ci := 4) (v := .ref (g 6)) (C := RX4) (T := TX4) (N := 13) hx hb hts (fun _ h => List.mem_cons_of_mem _ (List.mem_append_right _ h)) hown hK.1 hP 0 rfl rfl 5 (by decide) (hts (.fieldLink RX4 26 "RevisionStoresModel" "sums" "[I") (List.mem_of_getElem? (i := 3) rfl)) (fun _ h9 => h9) rfl dX4_isBetter_67 ?_
      refine lv_iload_n hx hb dX4_isBetter_70 rfl (lv_at hl 1 rfl) ?_
      refine r_iald (j := i) (v := su i) hx hb hK.1 hP 6 0 rfl rfl (by omega) (by first | decide | omega) rfl dX4_isBetter_71 ?_
      refine lv_aload_n hx hb dX4_isBetter_72 rfl (lv_at hl 0 rfl) ?_
      refine va_get (D := D) (ci := 4) (v := .ref (g 6)) (C := RX4) (T := TX4) (N := 13) hx hb hts (fun _ h => List.mem_cons_of_mem _ (List.mem_append_right _ h)) hown hK.1 hP 0 rfl rfl 5 (by decide) (hts (.fieldLink RX4 26 "RevisionStoresModel" "sums" "[I") (List.mem_of_getElem? (i := 3) rfl)) (fun _ h9 => h9) rfl dX4_isBetter_73 ?_
      refine lv_iload_n hx hb dX4_isBetter_76 rfl (lv_at hl 2 rfl) ?_
      refine r_iald (j := j) (v := su j) hx hb hK.1 hP 6 0 rfl rfl (by omega) (by first | decide | omega) rfl dX4_isBetter_77 ?_
      refine lv_icmp_eq (x := su i) (y := su j) (tgt := 104) hx hb dX4_isBetter_78 (by decide) (fun c78 => ?_) (fun c78 => ?_)
      · refine lv_iload_n hx hb dX4_isBetter_104 rfl (lv_at hl 1 rfl) ?_
        refine lv_iload_n hx hb dX4_isBetter_105 rfl (lv_at hl 2 rfl) ?_
        refine r_icmp_geN hx hb (x := i) (y := j) (by first | omega | decide) (by first | omega | decide) (tgt := 113) dX4_isBetter_106 (by decide) (fun c106 => ?_) (fun c106 => ?_)
        · refine lv_iconst (v := nI 0) hx hb dX4_isBetter_113 (by decide) ?_
          refine r_top (y := bI (btr dl ge su i j)) (congrArg bI (show false = (btr dl ge su i j) from by first | (simp [btr, c12, c42, c78, c106]; done) | (cases e1 : dl i <;> cases e2 : dl j <;> simp_all [btr]; done))) ?_
          exact W.zret hx hb hr (bI_narrow _) (fun t ht hW => ⟨_, rfl, rfl, ht⟩) (fun _ h => by cases h) dX4_isBetter_114
        · refine lv_iconst (v := nI 1) hx hb dX4_isBetter_109 (by decide) ?_
          refine lv_goto (tgt := 114) hx hb dX4_isBetter_110 (by decide) ?_
          refine r_top (y := bI (btr dl ge su i j)) (congrArg bI (show true = (btr dl ge su i j) from by first | (simp [btr, c12, c42, c78, c106]; done) | (cases e1 : dl i <;> cases e2 : dl j <;> simp_all [btr]; done))) ?_
          exact W.zret hx hb hr (bI_narrow _) (fun t ht hW => ⟨_, rfl, rfl, ht⟩) (fun _ h => by cases h) dX4_isBetter_114
      · refine lv_aload_n hx hb dX4_isBetter_81 rfl (lv_at hl 0 rfl) ?_
        refine va_get (D := D) (ci := 4) (v := .ref (g 6)) (C := RX4) (T := TX4) (N := 13) hx hb hts (fun _ h => List.mem_cons_of_mem _ (List.mem_append_right _ h)) hown hK.1 hP 0 rfl rfl 5 (by decide) (hts (.fieldLink RX4 26 "RevisionStoresModel" "sums" "[I") (List.mem_of_getElem? (i := 3) rfl)) (fun _ h9 => h9) rfl dX4_isBetter_82 ?_
        refine lv_iload_n hx hb dX4_isBetter_85 rfl (lv_at hl 1 rfl) ?_
        refine r_iald (j := i) (v := su i) hx hb hK.1 hP 6 0 rfl rfl (by omega) (by first | decide | omega) rfl dX4_isBetter_86 ?_
        refine lv_aload_n hx hb dX4_isBetter_87 rfl (lv_at hl 0 rfl) ?_
        refine va_get (D := D) (ci := 4) (v := .ref (g 6)) (C := RX4) (T := TX4) (N := 13) hx hb hts (fun _ h => List.mem_cons_of_mem _ (List.mem_append_right _ h)) hown hK.1 hP 0 rfl rfl 5 (by decide) (hts (.fieldLink RX4 26 "RevisionStoresModel" "sums" "[I") (List.mem_of_getElem? (i := 3) rfl)) (fun _ h9 => h9) rfl dX4_isBetter_88 ?_
        refine lv_iload_n hx hb dX4_isBetter_91 rfl (lv_at hl 2 rfl) ?_
        refine r_iald (j := j) (v := su j) hx hb hK.1 hP 6 0 rfl rfl (by omega) (by first | decide | omega) rfl dX4_isBetter_92 ?_
        refine lv_icmp_le (x := su i) (y := su j) (tgt := 100) hx hb dX4_isBetter_93 (by decide) (fun c93 => ?_) (fun c93 => ?_)
        · refine lv_iconst (v := nI 0) hx hb dX4_isBetter_100 (by decide) ?_
          refine lv_goto (tgt := 114) hx hb dX4_isBetter_101 (by decide) ?_
          refine r_top (y := bI (btr dl ge su i j)) (congrArg bI (show false = (btr dl ge su i j) from by first | (simp [btr, c12, c42, c78, c93]; done) | (cases e1 : dl i <;> cases e2 : dl j <;> simp_all [btr]; done))) ?_
          exact W.zret hx hb hr (bI_narrow _) (fun t ht hW => ⟨_, rfl, rfl, ht⟩) (fun _ h => by cases h) dX4_isBetter_114
        · refine lv_iconst (v := nI 1) hx hb dX4_isBetter_96 (by decide) ?_
          refine lv_goto (tgt := 114) hx hb dX4_isBetter_97 (by decide) ?_
          refine r_top (y := bI (btr dl ge su i j)) (congrArg bI (show true = (btr dl ge su i j) from by first | (simp [btr, c12, c42, c78, c93]; done) | (cases e1 : dl i <;> cases e2 : dl j <;> simp_all [btr]; done))) ?_
          exact W.zret hx hb hr (bI_narrow _) (fun t ht hW => ⟨_, rfl, rfl, ht⟩) (fun _ h => by cases h) dX4_isBetter_114
    · refine lv_aload_n hx hb dX4_isBetter_45 rfl (lv_at hl 0 rfl) ?_
      refine va_get (D := D) (ci := 4) (v := .ref (g 5)) (C := RX4) (T := TX4) (N := 13) hx hb hts (fun _ h => List.mem_cons_of_mem _ (List.mem_append_right _ h)) hown hK.1 hP 0 rfl rfl 4 (by decide) (hts (.fieldLink RX4 23 "RevisionStoresModel" "generations" "[I") (List.mem_of_getElem? (i := 2) rfl)) (fun _ h9 => h9) rfl dX4_isBetter_46 ?_
      refine lv_iload_n hx hb dX4_isBetter_49 rfl (lv_at hl 1 rfl) ?_
      refine r_iald (j := i) (v := nI (ge i)) hx hb hK.1 hP 5 0 rfl rfl (by omega) (by first | decide | omega) rfl dX4_isBetter_50 ?_
      have f50 := hTg i
      refine lv_aload_n hx hb dX4_isBetter_51 rfl (lv_at hl 0 rfl) ?_
      refine va_get (D := D) (ci := 4) (v := .ref (g 5)) (C := RX4) (T := TX4) (N := 13) hx hb hts (fun _ h => List.mem_cons_of_mem _ (List.mem_append_right _ h)) hown hK.1 hP 0 rfl rfl 4 (by decide) (hts (.fieldLink RX4 23 "RevisionStoresModel" "generations" "[I") (List.mem_of_getElem? (i := 2) rfl)) (fun _ h9 => h9) rfl dX4_isBetter_52 ?_
      refine lv_iload_n hx hb dX4_isBetter_55 rfl (lv_at hl 2 rfl) ?_
      refine r_iald (j := j) (v := nI (ge j)) hx hb hK.1 hP 5 0 rfl rfl (by omega) (by first | decide | omega) rfl dX4_isBetter_56 ?_
      have f56 := hTg j
      refine r_icmp_leN hx hb (x := ge i) (y := ge j) (by first | omega | decide) (by first | omega | decide) (tgt := 64) dX4_isBetter_57 (by decide) (fun c57 => ?_) (fun c57 => ?_)
      · refine lv_iconst (v := nI 0) hx hb dX4_isBetter_64 (by decide) ?_
        refine r_top (y := bI (btr dl ge su i j)) (congrArg bI (show false = (btr dl ge su i j) from by first | (simp [btr, c12, c42, c57]; done) | (cases e1 : dl i <;> cases e2 : dl j <;> simp_all [btr]; done))) ?_
        exact W.zret hx hb hr (bI_narrow _) (fun t ht hW => ⟨_, rfl, rfl, ht⟩) (fun _ h => by cases h) dX4_isBetter_65
      · refine lv_iconst (v := nI 1) hx hb dX4_isBetter_60 (by decide) ?_
        refine lv_goto (tgt := 65) hx hb dX4_isBetter_61 (by decide) ?_
        refine r_top (y := bI (btr dl ge su i j)) (congrArg bI (show true = (btr dl ge su i j) from by first | (simp [btr, c12, c42, c57]; done) | (cases e1 : dl i <;> cases e2 : dl j <;> simp_all [btr]; done))) ?_
        exact W.zret hx hb hr (bI_narrow _) (fun t ht hW => ⟨_, rfl, rfl, ht⟩) (fun _ h => by cases h) dX4_isBetter_65
  · refine lv_aload_n hx hb dX4_isBetter_15 rfl (lv_at hl 0 rfl) ?_
    refine va_get (D := D) (ci := 4) (v := .ref (g 4)) (C := RX4) (T := TX4) (N := 13) hx hb hts (fun _ h => List.mem_cons_of_mem _ (List.mem_append_right _ h)) hown hK.1 hP 0 rfl rfl 3 (by decide) (hts (.fieldLink RX4 19 "RevisionStoresModel" "deletions" "[Z") (List.mem_of_getElem? (i := 1) rfl)) (fun _ h9 => h9) rfl dX4_isBetter_16 ?_
    refine lv_iload_n hx hb dX4_isBetter_19 rfl (lv_at hl 1 rfl) ?_
    refine r_zald (j := i) (v := bI (dl i)) hx hb hK.1 hP 4 1 rfl rfl (by omega) (by first | decide | omega) rfl dX4_isBetter_20 ?_
    refine r_if_neB (x := dl i) (tgt := 28) hx hb dX4_isBetter_21 (by decide) (fun c21 => ?_) (fun c21 => ?_)
    · refine lv_iconst (v := nI 0) hx hb dX4_isBetter_28 (by decide) ?_
      refine r_top (y := bI (btr dl ge su i j)) (congrArg bI (show false = (btr dl ge su i j) from by first | (simp [btr, c12, c21]; done) | (cases e1 : dl i <;> cases e2 : dl j <;> simp_all [btr]; done))) ?_
      exact W.zret hx hb hr (bI_narrow _) (fun t ht hW => ⟨_, rfl, rfl, ht⟩) (fun _ h => by cases h) dX4_isBetter_29
    · refine lv_iconst (v := nI 1) hx hb dX4_isBetter_24 (by decide) ?_
      refine lv_goto (tgt := 29) hx hb dX4_isBetter_25 (by decide) ?_
      refine r_top (y := bI (btr dl ge su i j)) (congrArg bI (show true = (btr dl ge su i j) from by first | (simp [btr, c12, c21]; done) | (cases e1 : dl i <;> cases e2 : dl j <;> simp_all [btr]; done))) ?_
      exact W.zret hx hb hr (bI_narrow _) (fun t ht hW => ⟨_, rfl, rfl, ht⟩) (fun _ h => by cases h) dX4_isBetter_29
