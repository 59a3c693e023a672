set_option maxHeartbeats 8000000 in
set_option maxRecDepth 100000 in
theorem cX4_setDepth_ok (l : Launch) (D : va_G) (ct : Nat → ClassId) (g : Nat → Nat) (n : Nat) (dc : Nat → Nat) (pa : Nat → Option Nat) (va : Nat → Int32) (dl : Nat → Bool) (ge : Nat → Nat) (su : Nat → Int32) (mk : Nat → Bool) (dp : Nat → Int32) (sq : Nat → Int32) (tc : Nat → Int32) (kp : Nat → Int32) (la : Int32) (i : Nat) (x : Int32) (hn : n ≤ 150) (hTg : ∀ k, ge k ≤ 150) (hTp : ∀ k j, k < n → pa k = some j → j < k) (hi : i < 3) (hx20 : inn x (nI 1) (nI 20) = true) (sz : Nat) : Met l yX4_setDepth wsX4_setDepth ({ frames := 5, cells := 0, slots := 0, locals := 116 } : Room) (wrPc D ct [.ref (g 0), .int (nI i), .int x] (wM ct g n dc pa va dl ge su mk dp sq tc kp la) sz) (wqI D (nI ((smS pa ge (va_up dp i x) i n mk n).1)) (wM ct g n dc pa va dl ge su ((smS pa ge (va_up dp i x) i n mk n).2) (va_up dp i x) sq tc kp (nI 0)) (va_A (wM ct g n dc pa va dl ge su mk dp sq tc kp la) sz)) 0 0 (va_A (wM ct g n dc pa va dl ge su mk dp sq tc kp la) sz) := by
  refine Met.ofW (cc := cX4_setDepth) (maxL := 3) (ret := (some .int)) (by decide) rfl ?_
  intro p e s m args below meth c s₁ B hml hv
  obtain ⟨rfl, hsz, hP, hK, hD0⟩ := hv
  have hx := B.exec
  have hb := B.bytes
  have hr := B.returns
  have hts := atoms_spec (ws := wsX4_setDepth) B.pre
  have hown : s.vm.findClass RX4 = some m.cls := findClass_of_methodNamed B.named
  have hlocks := B.notSynchronized
  subst hsz
  have hD := hD0.self (sz := s.heap.size)
  generalize hAe : va_A (wM ct g n dc pa va dl ge su mk dp sq tc kp la) s.heap.size = A at hD ⊢
  have hA : ∀ q : Nat, s.heap.size ≤ q → A q := fun q h => by rw [← hAe]; exact Or.inr h
  have hS : va_S A s.heap s.heap [] := va_S.rf
  have hP : va_P D vwCl (wM ct g n dc pa va dl ge su mk dp sq tc kp la) s.heap := hP
  clear hAe hD0
  have hl := lv_entry ([.ref (g 0), .int (nI i), .int x]) (n := 3) (Nat.le_of_ble_eq_true rfl)
  rw [lg_entry_eq]
  generalize (lg_sl ([.ref (g 0), .int (nI i), .int x]) ++ List.replicate (3 - (lg_sl ([.ref (g 0), .int (nI i), .int x])).length) Slot.unset).toArray = ls at hl ⊢
  have hl : lv_has ls 3 [(0, .ref (g 0)), (1, .int (nI i)), (2, .int x)] := hl
  have hH0 : s.heap.size ≤ s.heap.size := Nat.le_refl _
  refine lv_aload_n hx hb dX4_setDepth_0 rfl (lv_at hl 0 rfl) ?_
  refine lv_iload_n hx hb dX4_setDepth_1 rfl (lv_at hl 1 rfl) ?_
  refine r_cS (As := [.int (nI i)]) (rest := [.ref (g 0)]) ⟨hx, hb, hml, hown, hts⟩ (cX4_isStore_ok l D ct (nI i) ) (va_cwS 1 hts gX4_setDepth_X4_isStore rfl rfl rfl (by decide +kernel) ⟨Nat.le_of_ble_eq_true rfl, Nat.le_of_ble_eq_true rfl⟩) hK va_Pnil rfl hl.1 rfl (Nat.le_of_ble_eq_true rfl) dX4_setDepth_2 ⟨Nat.le_of_ble_eq_true rfl, Nat.le_of_ble_eq_true rfl⟩ ?_
  refine r_top (y := bI true) (congrArg bI (show (inn (nI i) (nI 0) (nI 2)) = true from inn_t (by omega) (by decide))) ?_
  refine lv_iload_n hx hb dX4_setDepth_5 rfl (lv_at hl 2 rfl) ?_
  refine lv_iconst (v := nI 1) hx hb dX4_setDepth_6 (by decide) ?_
  refine lv_bipush (v := nI 20) hx hb dX4_setDepth_7 (by decide) ?_
  refine r_cS (As := [.int x, .int (nI 1), .int (nI 20)]) (rest := [.int (bI true), .ref (g 0)]) ⟨hx, hb, hml, hown, hts⟩ (cX4_in_ok l D ct x (nI 1) (nI 20) ) (va_cwS 3 hts gX4_setDepth_X4_in rfl rfl rfl (by decide +kernel) ⟨Nat.le_of_ble_eq_true rfl, Nat.le_of_ble_eq_true rfl⟩) hK va_Pnil rfl hl.1 rfl (Nat.le_of_ble_eq_true rfl) dX4_setDepth_9 ⟨Nat.le_of_ble_eq_true rfl, Nat.le_of_ble_eq_true rfl⟩ ?_
  refine r_top (y := bI true) (congrArg bI (show (inn x (nI 1) (nI 20)) = true from hx20)) ?_
  refine lv_iconst (v := nI 1) hx hb dX4_setDepth_12 (by decide) ?_
  refine r_wVi (As := [.int (bI true), .int (bI true), .int (bI true)]) (rest := []) ⟨hx, hb, hml, hown, hts⟩ (cX4_goes_ok l D ct g n dc pa va dl ge su mk dp sq tc kp la true true true  s.heap.size) (cwV 3 hts gX4_setDepth_X4_goes rfl rfl rfl (by decide +kernel) ⟨Nat.le_of_ble_eq_true rfl, Nat.le_of_ble_eq_true rfl⟩) hK hP hD hS hA [0, 1, 2, 3, 4, 5, 6, 7, 8, 9, 10, 11] rfl rfl rfl 0 4 rfl rfl rfl hl.1 rfl (Nat.le_of_ble_eq_true rfl) dX4_setDepth_13 ⟨Nat.le_of_ble_eq_true rfl, Nat.le_of_ble_eq_true rfl⟩ (fun H locs hP hD hS => ?_)
  have hP : va_P D vwCl (wM ct g n dc pa va dl ge su mk dp sq tc kp (gof true true true)) H := hP
  have hD : va_D A (wM ct g n dc pa va dl ge su mk dp sq tc kp (gof true true true)) := hD
  refine r_top (y := bI true) (congrArg bI (show (true && (true && true)) = true from rfl)) ?_
  refine r_if_neB (x := true) (tgt := 21) hx hb dX4_setDepth_16 (by decide) (fun c16 => ?_) (fun c16 => by cases c16)
  refine lv_aload_n hx hb dX4_setDepth_21 rfl (lv_at hl 0 rfl) ?_
  refine va_get (D := D) (ci := 4) (v := .ref (g 8)) (C := RX4) (T := TX4) (N := 13) hx hb hts (fun _ h => List.mem_cons_of_mem _ (List.mem_append_right _ h)) hown hK.1 hP 0 rfl rfl 8 (by decide) (hts (.fieldLink RX4 32 "RevisionStoresModel" "depths" "[I") (List.mem_of_getElem? (i := 1) rfl)) (fun _ h9 => h9) rfl dX4_setDepth_22 ?_
  refine lv_iload_n hx hb dX4_setDepth_25 rfl (lv_at hl 1 rfl) ?_
  refine lv_iload_n hx hb dX4_setDepth_26 rfl (lv_at hl 2 rfl) ?_
  refine r_iast (j := i) (x := x) (f' := va_up dp i x) hx hb hK.1 hP hD hS 8 0 rfl rfl (by omega) (by first | decide | omega) (up_i _ _ _) dX4_setDepth_27 (fun H locs hP hD hS => ?_)
  have hP : va_P D vwCl (wM ct g n dc pa va dl ge su mk (va_up dp i x) sq tc kp (gof true true true)) H := hP
  have hD : va_D A (wM ct g n dc pa va dl ge su mk (va_up dp i x) sq tc kp (gof true true true)) := hD
  refine lv_aload_n hx hb dX4_setDepth_28 rfl (lv_at hl 0 rfl) ?_
  refine lv_iload_n hx hb dX4_setDepth_29 rfl (lv_at hl 1 rfl) ?_
  refine r_wVi (As := [.int (nI i)]) (rest := []) ⟨hx, hb, hml, hown, hts⟩ (cX4_stems_ok l D ct g n dc pa va dl ge su mk (va_up dp i x) sq tc kp (gof true true true) i (by first | assumption | omega) (by first | assumption | omega) (by first | assumption | omega) (by first | assumption | omega) H.size) (cwV 1 hts gX4_setDepth_X4_stems rfl rfl rfl (by decide +kernel) ⟨Nat.le_of_ble_eq_true rfl, Nat.le_of_ble_eq_true rfl⟩) hK hP hD hS hA [0, 1, 2, 3, 4, 5, 6, 7, 8, 9, 10, 11] rfl rfl rfl 0 4 rfl rfl rfl hl.1 rfl (Nat.le_of_ble_eq_true rfl) dX4_setDepth_30 ⟨Nat.le_of_ble_eq_true rfl, Nat.le_of_ble_eq_true rfl⟩ (fun H locs hP hD hS => ?_)
  have hP : va_P D vwCl (wM ct g n dc pa va dl ge su ((smS pa ge (va_up dp i x) i n mk n).2) (va_up dp i x) sq tc kp (gof true true true)) H := hP
  have hD : va_D A (wM ct g n dc pa va dl ge su ((smS pa ge (va_up dp i x) i n mk n).2) (va_up dp i x) sq tc kp (gof true true true)) := hD
  have e9 : (gof true true true) = (nI 0) := rfl
  have hP := (congrArg (fun z9 => va_P D vwCl (wM ct g n dc pa va dl ge su ((smS pa ge (va_up dp i x) i n mk n).2) (va_up dp i x) sq tc kp z9) H) e9).mp hP
  have hP : va_P D vwCl (wM ct g n dc pa va dl ge su ((smS pa ge (va_up dp i x) i n mk n).2) (va_up dp i x) sq tc kp (nI 0)) H := hP
  exact W.iret hx hb hr (fun t ht hW => ⟨⟨_, (), rfl, rfl, by show va_P D vwCl _ t.heap; rw [ht]; exact hP⟩, hS.F ht⟩) hS.2.2 dX4_setDepth_33
set_option maxHeartbeats 8000000 in
set_option maxRecDepth 100000 in
theorem cX4_setDepth_bad (l : Launch) (D : va_G) (ct : Nat → ClassId) (g : Nat → Nat) (n : Nat) (dc : Nat → Nat) (pa : Nat → Option Nat) (va : Nat → Int32) (dl : Nat → Bool) (ge : Nat → Nat) (su : Nat → Int32) (mk : Nat → Bool) (dp : Nat → Int32) (sq : Nat → Int32) (tc : Nat → Int32) (kp : Nat → Int32) (la : Int32) (p0 : Int32) (p1 : Int32) (hbad : (inn p0 (nI 0) (nI 2) && (inn p1 (nI 1) (nI 20) && true)) = false) (sz : Nat) : Met l yX4_setDepth wsX4_setDepth ({ frames := 5, cells := 0, slots := 0, locals := 116 } : Room) (wrPc D ct [.ref (g 0), .int p0, .int p1] (wM ct g n dc pa va dl ge su mk dp sq tc kp la) sz) (wqI D (nI 0) (wM ct g n dc pa va dl ge su mk dp sq tc kp (gof (inn p0 (nI 0) (nI 2)) (inn p1 (nI 1) (nI 20)) true)) (va_A (wM ct g n dc pa va dl ge su mk dp sq tc kp la) sz)) 0 0 (va_A (wM ct g n dc pa va dl ge su mk dp sq tc kp la) sz) := by
  refine Met.ofW (cc := cX4_setDepth) (maxL := 3) (ret := (some .int)) (by decide) rfl ?_
  intro p e s m args below meth c s₁ B hml hv
  obtain ⟨rfl, hsz, hP, hK, hD0⟩ := hv
  have hx := B.exec
  have hb := B.bytes
  have hr := B.returns
  have hts := atoms_spec (ws := wsX4_setDepth) B.pre
  have hown : s.vm.findClass RX4 = some m.cls := findClass_of_methodNamed B.named
  have hlocks := B.notSynchronized
  subst hsz
  have hD := hD0.self (sz := s.heap.size)
  generalize hAe : va_A (wM ct g n dc pa va dl ge su mk dp sq tc kp la) s.heap.size = A at hD ⊢
  have hA : ∀ q : Nat, s.heap.size ≤ q → A q := fun q h => by rw [← hAe]; exact Or.inr h
  have hS : va_S A s.heap s.heap [] := va_S.rf
  have hP : va_P D vwCl (wM ct g n dc pa va dl ge su mk dp sq tc kp la) s.heap := hP
  clear hAe hD0
  have hl := lv_entry ([.ref (g 0), .int p0, .int p1]) (n := 3) (Nat.le_of_ble_eq_true rfl)
  rw [lg_entry_eq]
  generalize (lg_sl ([.ref (g 0), .int p0, .int p1]) ++ List.replicate (3 - (lg_sl ([.ref (g 0), .int p0, .int p1])).length) Slot.unset).toArray = ls at hl ⊢
  have hl : lv_has ls 3 [(0, .ref (g 0)), (1, .int p0), (2, .int p1)] := hl
  have hH0 : s.heap.size ≤ s.heap.size := Nat.le_refl _
  refine lv_aload_n hx hb dX4_setDepth_0 rfl (lv_at hl 0 rfl) ?_
  refine lv_iload_n hx hb dX4_setDepth_1 rfl (lv_at hl 1 rfl) ?_
  refine r_cS (As := [.int p0]) (rest := [.ref (g 0)]) ⟨hx, hb, hml, hown, hts⟩ (cX4_isStore_ok l D ct p0 ) (va_cwS 1 hts gX4_setDepth_X4_isStore rfl rfl rfl (by decide +kernel) ⟨Nat.le_of_ble_eq_true rfl, Nat.le_of_ble_eq_true rfl⟩) hK va_Pnil rfl hl.1 rfl (Nat.le_of_ble_eq_true rfl) dX4_setDepth_2 ⟨Nat.le_of_ble_eq_true rfl, Nat.le_of_ble_eq_true rfl⟩ ?_
  refine lv_iload_n hx hb dX4_setDepth_5 rfl (lv_at hl 2 rfl) ?_
  refine lv_iconst (v := nI 1) hx hb dX4_setDepth_6 (by decide) ?_
  refine lv_bipush (v := nI 20) hx hb dX4_setDepth_7 (by decide) ?_
  refine r_cS (As := [.int p1, .int (nI 1), .int (nI 20)]) (rest := [.int (bI (inn p0 (nI 0) (nI 2))), .ref (g 0)]) ⟨hx, hb, hml, hown, hts⟩ (cX4_in_ok l D ct p1 (nI 1) (nI 20) ) (va_cwS 3 hts gX4_setDepth_X4_in rfl rfl rfl (by decide +kernel) ⟨Nat.le_of_ble_eq_true rfl, Nat.le_of_ble_eq_true rfl⟩) hK va_Pnil rfl hl.1 rfl (Nat.le_of_ble_eq_true rfl) dX4_setDepth_9 ⟨Nat.le_of_ble_eq_true rfl, Nat.le_of_ble_eq_true rfl⟩ ?_
  refine lv_iconst (v := nI 1) hx hb dX4_setDepth_12 (by decide) ?_
  refine r_wVi (As := [.int (bI (inn p0 (nI 0) (nI 2))), .int (bI (inn p1 (nI 1) (nI 20))), .int (bI true)]) (rest := []) ⟨hx, hb, hml, hown, hts⟩ (cX4_goes_ok l D ct g n dc pa va dl ge su mk dp sq tc kp la (inn p0 (nI 0) (nI 2)) (inn p1 (nI 1) (nI 20)) true  s.heap.size) (cwV 3 hts gX4_setDepth_X4_goes rfl rfl rfl (by decide +kernel) ⟨Nat.le_of_ble_eq_true rfl, Nat.le_of_ble_eq_true rfl⟩) hK hP hD hS hA [0, 1, 2, 3, 4, 5, 6, 7, 8, 9, 10, 11] rfl rfl rfl 0 4 rfl rfl rfl hl.1 rfl (Nat.le_of_ble_eq_true rfl) dX4_setDepth_13 ⟨Nat.le_of_ble_eq_true rfl, Nat.le_of_ble_eq_true rfl⟩ (fun H locs hP hD hS => ?_)
  have hP : va_P D vwCl (wM ct g n dc pa va dl ge su mk dp sq tc kp (gof (inn p0 (nI 0) (nI 2)) (inn p1 (nI 1) (nI 20)) true)) H := hP
  have hD : va_D A (wM ct g n dc pa va dl ge su mk dp sq tc kp (gof (inn p0 (nI 0) (nI 2)) (inn p1 (nI 1) (nI 20)) true)) := hD
  refine r_top (y := bI false) (congrArg bI (show ((inn p0 (nI 0) (nI 2)) && ((inn p1 (nI 1) (nI 20)) && true)) = false from hbad)) ?_
  refine r_if_neB (x := false) (tgt := 21) hx hb dX4_setDepth_16 (by decide) (fun c16 => by cases c16) (fun c16 => ?_)
  refine lv_iconst (v := nI 0) hx hb dX4_setDepth_19 (by decide) ?_
  exact W.iret hx hb hr (fun t ht hW => ⟨⟨_, (), rfl, rfl, by show va_P D vwCl _ t.heap; rw [ht]; exact hP⟩, hS.F ht⟩) hS.2.2 dX4_setDepth_20
set_option maxHeartbeats 8000000 in
set_option maxRecDepth 100000 in
theorem cX4_wipe_ok (l : Launch) (D : va_G) (ct : Nat → ClassId) (g : Nat → Nat) (n : Nat) (dc : Nat → Nat) (pa : Nat → Option Nat) (va : Nat → Int32) (dl : Nat → Bool) (ge : Nat → Nat) (su : Nat → Int32) (mk : Nat → Bool) (dp : Nat → Int32) (sq : Nat → Int32) (tc : Nat → Int32) (kp : Nat → Int32) (la : Int32) (i : Nat) (hi : i < 3) (sz : Nat) : Met l yX4_wipe wsX4_wipe ({ frames := 2, cells := 0, slots := 0, locals := 42 } : Room) (wrPc D ct [.ref (g 0), .int (nI i)] (wM ct g n dc pa va dl ge su mk dp sq tc kp la) sz) (wqI D (nI (fct (mrw mk i) 150)) (wM ct g n dc pa va dl ge su (remM mk i 150) dp (va_up sq i (nI 0)) (clr tc (4 * i) 4) (clr kp (9 * i) 9) (nI 0)) (va_A (wM ct g n dc pa va dl ge su mk dp sq tc kp la) sz)) 0 0 (va_A (wM ct g n dc pa va dl ge su mk dp sq tc kp la) sz) := by
  refine Met.ofW (cc := cX4_wipe) (maxL := 4) (ret := (some .int)) (by decide) rfl ?_
  intro p e s m args below meth c s₁ B hml hv
  obtain ⟨rfl, hsz, hP, hK, hD0⟩ := hv
  have hx := B.exec
  have hb := B.bytes
  have hr := B.returns
  have hts := atoms_spec (ws := wsX4_wipe) B.pre
  have hown : s.vm.findClass RX4 = some m.cls := findClass_of_methodNamed B.named
  have hlocks := B.notSynchronized
  subst hsz
  have hD := hD0.self (sz := s.heap.size)
  generalize hAe : va_A (wM ct g n dc pa va dl ge su mk dp sq tc kp la) s.heap.size = A at hD ⊢
  have hA : ∀ q : Nat, s.heap.size ≤ q → A q := fun q h => by rw [← hAe]; exact Or.inr h
  have hS : va_S A s.heap s.heap [] := va_S.rf
  have hP : va_P D vwCl (wM ct g n dc pa va dl ge su mk dp sq tc kp la) s.heap := hP
  clear hAe hD0
  have hl := lv_entry ([.ref (g 0), .int (nI i)]) (n := 4) (Nat.le_of_ble_eq_true rfl)
  rw [lg_entry_eq]
  generalize (lg_sl ([.ref (g 0), .int (nI i)]) ++ List.replicate (4 - (lg_sl ([.ref (g 0), .int (nI i)])).length) Slot.unset).toArray = ls at hl ⊢
  have hl : lv_has ls 4 [(0, .ref (g 0)), (1, .int (nI i))] := hl
  have hH0 : s.heap.size ≤ s.heap.size := Nat.le_refl _
  refine lv_iconst (v := nI 0) hx hb dX4_wipe_0 (by decide) ?_
  refine lv_istore_n (lv' := [(2, .int (nI 0)), (0, .ref (g 0)), (1, .int (nI i))]) hx hb dX4_wipe_1 rfl hl (by decide) rfl (fun ls hl => ?_)
  refine lv_aload_n hx hb dX4_wipe_2 rfl (lv_at hl 1 rfl) ?_
  refine lv_iload_n hx hb dX4_wipe_3 rfl (lv_at hl 2 rfl) ?_
  refine r_cS (As := [.int (nI i)]) (rest := [.ref (g 0)]) ⟨hx, hb, hml, hown, hts⟩ (cX4_isStore_ok l D ct (nI i) ) (va_cwS 1 hts gX4_wipe_X4_isStore rfl rfl rfl (by decide +kernel) ⟨Nat.le_of_ble_eq_true rfl, Nat.le_of_ble_eq_true rfl⟩) hK va_Pnil rfl hl.1 rfl (Nat.le_of_ble_eq_true rfl) dX4_wipe_4 ⟨Nat.le_of_ble_eq_true rfl, Nat.le_of_ble_eq_true rfl⟩ ?_
  refine r_top (y := bI true) (congrArg bI (show (inn (nI i) (nI 0) (nI 2)) = true from inn_t (by omega) (by decide))) ?_
  refine lv_iconst (v := nI 1) hx hb dX4_wipe_7 (by decide) ?_
  refine lv_iconst (v := nI 1) hx hb dX4_wipe_8 (by decide) ?_
  refine r_wVi (As := [.int (bI true), .int (bI true), .int (bI true)]) (rest := []) ⟨hx, hb, hml, hown, hts⟩ (cX4_goes_ok l D ct g n dc pa va dl ge su mk dp sq tc kp la true true true  s.heap.size) (cwV 3 hts gX4_wipe_X4_goes rfl rfl rfl (by decide +kernel) ⟨Nat.le_of_ble_eq_true rfl, Nat.le_of_ble_eq_true rfl⟩) hK hP hD hS hA [0, 1, 2, 3, 4, 5, 6, 7, 8, 9, 10, 11] rfl rfl rfl 0 4 rfl rfl rfl hl.1 rfl (Nat.le_of_ble_eq_true rfl) dX4_wipe_9 ⟨Nat.le_of_ble_eq_true rfl, Nat.le_of_ble_eq_true rfl⟩ (fun H locs hP hD hS => ?_)
  have hP : va_P D vwCl (wM ct g n dc pa va dl ge su mk dp sq tc kp (gof true true true)) H := hP
  have hD : va_D A (wM ct g n dc pa va dl ge su mk dp sq tc kp (gof true true true)) := hD
  refine r_top (y := bI true) (congrArg bI (show (true && (true && true)) = true from rfl)) ?_
  refine r_if_eqB (x := true) (tgt := 123) hx hb dX4_wipe_12 (by decide) (fun c12 => by cases c12) (fun c12 => ?_)
  refine lv_iconst (v := nI 0) hx hb dX4_wipe_15 (by decide) ?_
  refine lv_istore_n (lv' := [(3, .int (nI 0)), (2, .int (nI 0)), (0, .ref (g 0)), (1, .int (nI i))]) hx hb dX4_wipe_16 rfl hl (by decide) rfl (fun ls hl => ?_)
  have key17 : ∀ (d17 : Nat) (k : Nat) (hk : k ≤ 150), 150 - k < d17 → ∀ (H : Heap) (locs : List Loc) (ls : Array Slot), va_P D vwCl (wM ct g n dc pa va dl ge su (remM mk i k) dp sq tc kp (gof true true true)) H → va_D A (wM ct g n dc pa va dl ge su (remM mk i k) dp sq tc kp (gof true true true)) → va_S A s.heap H locs → lv_has ls 4 [(3, .int (nI k)), (2, .int (nI (fct (mrw mk i) k))), (0, .ref (g 0)), (1, .int (nI i))] → W p l e ({ frames := 2, cells := 0, slots := 0, locals := 42 } : Room) s m ([.ref (g 0), .int (nI i)] : List Value).toArray below meth c H locs 0 0 (MQ below (wqI D (nI (fct (mrw mk i) 150)) (wM ct g n dc pa va dl ge su (remM mk i 150) dp (va_up sq i (nI 0)) (clr tc (4 * i) 4) (clr kp (9 * i) 9) (nI 0)) A) ([.ref (g 0), .int (nI i)] : List Value).toArray s 0 0 A) (F0 m 17 ls []) := by
    intro d17
    induction d17 with
    | zero => intro k hk h9; exact absurd h9 (Nat.not_lt_zero _)
    | succ d17 ih17 =>
      intro k hk hm17 H locs ls hP hD hS hl
      refine lv_iload_n hx hb dX4_wipe_17 rfl (lv_at hl 0 rfl) ?_
      refine lv_sipush (v := nI 150) hx hb dX4_wipe_18 (by decide) ?_
      refine r_icmp_geN hx hb (x := k) (y := 150) (by first | omega | decide) (by first | omega | decide) (tgt := 66) dX4_wipe_21 (by decide) (fun c21 => ?_) (fun c21 => ?_)
      · have e9 : (remM mk i k) = (remM mk i 150) := by rw [show k = 150 by omega]
        have hP := (congrArg (fun z9 => va_P D vwCl (wM ct g n dc pa va dl ge su z9 dp sq tc kp (gof true true true)) H) e9).mp hP
        have hD := (congrArg (fun z9 => va_D A (wM ct g n dc pa va dl ge su z9 dp sq tc kp (gof true true true))) e9).mp hD
        have hP : va_P D vwCl (wM ct g n dc pa va dl ge su (remM mk i 150) dp sq tc kp (gof true true true)) H := hP
        have hD : va_D A (wM ct g n dc pa va dl ge su (remM mk i 150) dp sq tc kp (gof true true true)) := hD
        have hl := lv_re (f := fun z9 => [(3, .int (nI k)), (2, .int z9), (0, .ref (g 0)), (1, .int (nI i))]) hl (show nI (fct (mrw mk i) k) = nI (fct (mrw mk i) 150) from congrArg nI (show (fct (mrw mk i) k) = (fct (mrw mk i) 150) from by rw [show k = 150 by omega]))
        refine lv_iconst (v := nI 0) hx hb dX4_wipe_66 (by decide) ?_
        refine lv_istore_n (lv' := [(3, .int (nI 0)), (2, .int (nI (fct (mrw mk i) 150))), (0, .ref (g 0)), (1, .int (nI i))]) hx hb dX4_wipe_67 rfl hl (by decide) rfl (fun ls hl => ?_)
        have key68 : ∀ (d68 : Nat) (q : Nat) (hq : q ≤ 9), 9 - q < d68 → ∀ (H : Heap) (locs : List Loc) (ls : Array Slot), va_P D vwCl (wM ct g n dc pa va dl ge su (remM mk i 150) dp sq tc (clr kp (9 * i) q) (gof true true true)) H → va_D A (wM ct g n dc pa va dl ge su (remM mk i 150) dp sq tc (clr kp (9 * i) q) (gof true true true)) → va_S A s.heap H locs → lv_has ls 4 [(3, .int (nI q)), (2, .int (nI (fct (mrw mk i) 150))), (0, .ref (g 0)), (1, .int (nI i))] → W p l e ({ frames := 2, cells := 0, slots := 0, locals := 42 } : Room) s m ([.ref (g 0), .int (nI i)] : List Value).toArray below meth c H locs 0 0 (MQ below (wqI D (nI (fct (mrw mk i) 150)) (wM ct g n dc pa va dl ge su (remM mk i 150) dp (va_up sq i (nI 0)) (clr tc (4 * i) 4) (clr kp (9 * i) 9) (nI 0)) A) ([.ref (g 0), .int (nI i)] : List Value).toArray s 0 0 A) (F0 m 68 ls []) := by
          intro d68
          induction d68 with
          | zero => intro q hq h9; exact absurd h9 (Nat.not_lt_zero _)
          | succ d68 ih68 =>
            intro q hq hm68 H locs ls hP hD hS hl
            refine lv_iload_n hx hb dX4_wipe_68 rfl (lv_at hl 0 rfl) ?_
            refine lv_bipush (v := nI 9) hx hb dX4_wipe_69 (by decide) ?_
            refine r_icmp_geN hx hb (x := q) (y := 9) (by first | omega | decide) (by first | omega | decide) (tgt := 92) dX4_wipe_71 (by decide) (fun c71 => ?_) (fun c71 => ?_)
            · have e9 : (clr kp (9 * i) q) = (clr kp (9 * i) 9) := by rw [show q = 9 by omega]
              have hP := (congrArg (fun z9 => va_P D vwCl (wM ct g n dc pa va dl ge su (remM mk i 150) dp sq tc z9 (gof true true true)) H) e9).mp hP
              have hD := (congrArg (fun z9 => va_D A (wM ct g n dc pa va dl ge su (remM mk i 150) dp sq tc z9 (gof true true true))) e9).mp hD
              have hP : va_P D vwCl (wM ct g n dc pa va dl ge su (remM mk i 150) dp sq tc (clr kp (9 * i) 9) (gof true true true)) H := hP
              have hD : va_D A (wM ct g n dc pa va dl ge su (remM mk i 150) dp sq tc (clr kp (9 * i) 9) (gof true true true)) := hD
              refine lv_iconst (v := nI 0) hx hb dX4_wipe_92 (by decide) ?_
              refine lv_istore_n (lv' := [(3, .int (nI 0)), (2, .int (nI (fct (mrw mk i) 150))), (0, .ref (g 0)), (1, .int (nI i))]) hx hb dX4_wipe_93 rfl hl (by decide) rfl (fun ls hl => ?_)
              have key94 : ∀ (d94 : Nat) (u : Nat) (hu : u ≤ 4), 4 - u < d94 → ∀ (H : Heap) (locs : List Loc) (ls : Array Slot), va_P D vwCl (wM ct g n dc pa va dl ge su (remM mk i 150) dp sq (clr tc (4 * i) u) (clr kp (9 * i) 9) (gof true true true)) H → va_D A (wM ct g n dc pa va dl ge su (remM mk i 150) dp sq (clr tc (4 * i) u) (clr kp (9 * i) 9) (gof true true true)) → va_S A s.heap H locs → lv_has ls 4 [(3, .int (nI u)), (2, .int (nI (fct (mrw mk i) 150))), (0, .ref (g 0)), (1, .int (nI i))] → W p l e ({ frames := 2, cells := 0, slots := 0, locals := 42 } : Room) s m ([.ref (g 0), .int (nI i)] : List Value).toArray below meth c H locs 0 0 (MQ below (wqI D (nI (fct (mrw mk i) 150)) (wM ct g n dc pa va dl ge su (remM mk i 150) dp (va_up sq i (nI 0)) (clr tc (4 * i) 4) (clr kp (9 * i) 9) (nI 0)) A) ([.ref (g 0), .int (nI i)] : List Value).toArray s 0 0 A) (F0 m 94 ls []) := by
                intro d94
                induction d94 with
                | zero => intro u hu h9; exact absurd h9 (Nat.not_lt_zero _)
                | succ d94 ih94 =>
                  intro u hu hm94 H locs ls hP hD hS hl
                  refine lv_iload_n hx hb dX4_wipe_94 rfl (lv_at hl 0 rfl) ?_
                  refine lv_iconst (v := nI 4) hx hb dX4_wipe_95 (by decide) ?_
                  refine r_icmp_geN hx hb (x := u) (y := 4) (by first | omega | decide) (by first | omega | decide) (tgt := 116) dX4_wipe_96 (by decide) (fun c96 => ?_) (fun c96 => ?_)
                  · have e9 : (clr tc (4 * i) u) = (clr tc (4 * i) 4) := by rw [show u = 4 by omega]
                    have hP := (congrArg (fun z9 => va_P D vwCl (wM ct g n dc pa va dl ge su (remM mk i 150) dp sq z9 (clr kp (9 * i) 9) (gof true true true)) H) e9).mp hP
                    have hD := (congrArg (fun z9 => va_D A (wM ct g n dc pa va dl ge su (remM mk i 150) dp sq z9 (clr kp (9 * i) 9) (gof true true true))) e9).mp hD
                    have hP : va_P D vwCl (wM ct g n dc pa va dl ge su (remM mk i 150) dp sq (clr tc (4 * i) 4) (clr kp (9 * i) 9) (gof true true true)) H := hP
                    have hD : va_D A (wM ct g n dc pa va dl ge su (remM mk i 150) dp sq (clr tc (4 * i) 4) (clr kp (9 * i) 9) (gof true true true)) := hD
                    refine lv_aload_n hx hb dX4_wipe_116 rfl (lv_at hl 2 rfl) ?_
                    refine va_get (D := D) (ci := 4) (v := .ref (g 9)) (C := RX4) (T := TX4) (N := 13) hx hb hts (fun _ h => List.mem_cons_of_mem _ (List.mem_append_right _ h)) hown hK.1 hP 0 rfl rfl 9 (by decide) (hts (.fieldLink RX4 35 "RevisionStoresModel" "sequences" "[I") (List.mem_of_getElem? (i := 4) rfl)) (fun _ h9 => h9) rfl dX4_wipe_117 ?_
                    refine lv_iload_n hx hb dX4_wipe_120 rfl (lv_at hl 3 rfl) ?_
                    refine lv_iconst (v := nI 0) hx hb dX4_wipe_121 (by decide) ?_
                    refine r_iast (j := i) (x := (nI 0)) (f' := va_up sq i (nI 0)) hx hb hK.1 hP hD hS 9 0 rfl rfl (by omega) (by first | decide | omega) (up_i _ _ _) dX4_wipe_122 (fun H locs hP hD hS => ?_)
                    have hP : va_P D vwCl (wM ct g n dc pa va dl ge su (remM mk i 150) dp (va_up sq i (nI 0)) (clr tc (4 * i) 4) (clr kp (9 * i) 9) (gof true true true)) H := hP
                    have hD : va_D A (wM ct g n dc pa va dl ge su (remM mk i 150) dp (va_up sq i (nI 0)) (clr tc (4 * i) 4) (clr kp (9 * i) 9) (gof true true true)) := hD
                    refine lv_iload_n hx hb dX4_wipe_123 rfl (lv_at hl 1 rfl) ?_
                    have e9 : (gof true true true) = (nI 0) := rfl
                    have hP := (congrArg (fun z9 => va_P D vwCl (wM ct g n dc pa va dl ge su (remM mk i 150) dp (va_up sq i (nI 0)) (clr tc (4 * i) 4) (clr kp (9 * i) 9) z9) H) e9).mp hP
                    have hP : va_P D vwCl (wM ct g n dc pa va dl ge su (remM mk i 150) dp (va_up sq i (nI 0)) (clr tc (4 * i) 4) (clr kp (9 * i) 9) (nI 0)) H := hP
                    exact W.iret hx hb hr (fun t ht hW => ⟨⟨_, (), rfl, rfl, by show va_P D vwCl _ t.heap; rw [ht]; exact hP⟩, hS.F ht⟩) hS.2.2 dX4_wipe_124
                  · refine lv_aload_n hx hb dX4_wipe_99 rfl (lv_at hl 2 rfl) ?_
                    refine va_get (D := D) (ci := 4) (v := .ref (g 10)) (C := RX4) (T := TX4) (N := 13) hx hb hts (fun _ h => List.mem_cons_of_mem _ (List.mem_append_right _ h)) hown hK.1 hP 0 rfl rfl 10 (by decide) (hts (.fieldLink RX4 38 "RevisionStoresModel" "touched" "[I") (List.mem_of_getElem? (i := 3) rfl)) (fun _ h9 => h9) rfl dX4_wipe_100 ?_
                    refine lv_iconst (v := nI 4) hx hb dX4_wipe_103 (by decide) ?_
                    refine lv_iload_n hx hb dX4_wipe_104 rfl (lv_at hl 3 rfl) ?_
                    refine r_imulN hx hb dX4_wipe_105 ?_
                    refine lv_iload_n hx hb dX4_wipe_106 rfl (lv_at hl 0 rfl) ?_
                    refine r_iaddN hx hb dX4_wipe_107 ?_
                    refine lv_iconst (v := nI 0) hx hb dX4_wipe_108 (by decide) ?_
                    refine r_iast (j := (4 * i) + u) (x := (nI 0)) (f' := va_up (clr tc (4 * i) u) ((4 * i) + u) (nI 0)) hx hb hK.1 hP hD hS 10 0 rfl rfl (by omega) (by first | decide | omega) (up_i _ _ _) dX4_wipe_109 (fun H locs hP hD hS => ?_)
                    have hP : va_P D vwCl (wM ct g n dc pa va dl ge su (remM mk i 150) dp sq (va_up (clr tc (4 * i) u) ((4 * i) + u) (nI 0)) (clr kp (9 * i) 9) (gof true true true)) H := hP
                    have hD : va_D A (wM ct g n dc pa va dl ge su (remM mk i 150) dp sq (va_up (clr tc (4 * i) u) ((4 * i) + u) (nI 0)) (clr kp (9 * i) 9) (gof true true true)) := hD
                    refine lv_iinc (v := nI (u + 1)) (lv' := [(3, .int (nI (u + 1))), (2, .int (nI (fct (mrw mk i) 150))), (0, .ref (g 0)), (1, .int (nI i))]) hx hb dX4_wipe_110 hl (k := 0) rfl (nI_1 _) (by decide) rfl (fun ls hl => ?_)
                    refine lv_goto (tgt := 94) hx hb dX4_wipe_113 (by decide) ?_
                    have e9 : (va_up (clr tc (4 * i) u) ((4 * i) + u) (nI 0)) = (clr tc (4 * i) (u + 1)) := clr_s _ _ _
                    have hP := (congrArg (fun z9 => va_P D vwCl (wM ct g n dc pa va dl ge su (remM mk i 150) dp sq z9 (clr kp (9 * i) 9) (gof true true true)) H) e9).mp hP
                    have hD := (congrArg (fun z9 => va_D A (wM ct g n dc pa va dl ge su (remM mk i 150) dp sq z9 (clr kp (9 * i) 9) (gof true true true))) e9).mp hD
                    have hP : va_P D vwCl (wM ct g n dc pa va dl ge su (remM mk i 150) dp sq (clr tc (4 * i) (u + 1)) (clr kp (9 * i) 9) (gof true true true)) H := hP
                    have hD : va_D A (wM ct g n dc pa va dl ge su (remM mk i 150) dp sq (clr tc (4 * i) (u + 1)) (clr kp (9 * i) 9) (gof true true true)) := hD
                    exact ih94 (u + 1) (by first | assumption | omega) (by omega) H locs ls hP hD hS (lv_sub hl [0, 1, 2, 3] rfl)
              have e9 : tc = (clr tc (4 * i) 0) := clr_0 _ _
              have hP := (congrArg (fun z9 => va_P D vwCl (wM ct g n dc pa va dl ge su (remM mk i 150) dp sq z9 (clr kp (9 * i) 9) (gof true true true)) H) e9).mp hP
              have hD := (congrArg (fun z9 => va_D A (wM ct g n dc pa va dl ge su (remM mk i 150) dp sq z9 (clr kp (9 * i) 9) (gof true true true))) e9).mp hD
              have hP : va_P D vwCl (wM ct g n dc pa va dl ge su (remM mk i 150) dp sq (clr tc (4 * i) 0) (clr kp (9 * i) 9) (gof true true true)) H := hP
              have hD : va_D A (wM ct g n dc pa va dl ge su (remM mk i 150) dp sq (clr tc (4 * i) 0) (clr kp (9 * i) 9) (gof true true true)) := hD
              exact key94 ((4 - 0) + 1) 0 (by first | assumption | omega) (Nat.lt_succ_self _) H locs ls hP hD hS (lv_sub hl [0, 1, 2, 3] rfl)
            · refine lv_aload_n hx hb dX4_wipe_74 rfl (lv_at hl 2 rfl) ?_
              refine va_get (D := D) (ci := 4) (v := .ref (g 11)) (C := RX4) (T := TX4) (N := 13) hx hb hts (fun _ h => List.mem_cons_of_mem _ (List.mem_append_right _ h)) hown hK.1 hP 0 rfl rfl 11 (by decide) (hts (.fieldLink RX4 41 "RevisionStoresModel" "kept" "[I") (List.mem_of_getElem? (i := 2) rfl)) (fun _ h9 => h9) rfl dX4_wipe_75 ?_
              refine lv_bipush (v := nI 9) hx hb dX4_wipe_78 (by decide) ?_
              refine lv_iload_n hx hb dX4_wipe_80 rfl (lv_at hl 3 rfl) ?_
              refine r_imulN hx hb dX4_wipe_81 ?_
              refine lv_iload_n hx hb dX4_wipe_82 rfl (lv_at hl 0 rfl) ?_
              refine r_iaddN hx hb dX4_wipe_83 ?_
              refine lv_iconst (v := nI 0) hx hb dX4_wipe_84 (by decide) ?_
              refine r_iast (j := (9 * i) + q) (x := (nI 0)) (f' := va_up (clr kp (9 * i) q) ((9 * i) + q) (nI 0)) hx hb hK.1 hP hD hS 11 0 rfl rfl (by omega) (by first | decide | omega) (up_i _ _ _) dX4_wipe_85 (fun H locs hP hD hS => ?_)
              have hP : va_P D vwCl (wM ct g n dc pa va dl ge su (remM mk i 150) dp sq tc (va_up (clr kp (9 * i) q) ((9 * i) + q) (nI 0)) (gof true true true)) H := hP
              have hD : va_D A (wM ct g n dc pa va dl ge su (remM mk i 150) dp sq tc (va_up (clr kp (9 * i) q) ((9 * i) + q) (nI 0)) (gof true true true)) := hD
              refine lv_iinc (v := nI (q + 1)) (lv' := [(3, .int (nI (q + 1))), (2, .int (nI (fct (mrw mk i) 150))), (0, .ref (g 0)), (1, .int (nI i))]) hx hb dX4_wipe_86 hl (k := 0) rfl (nI_1 _) (by decide) rfl (fun ls hl => ?_)
              refine lv_goto (tgt := 68) hx hb dX4_wipe_89 (by decide) ?_
              have e9 : (va_up (clr kp (9 * i) q) ((9 * i) + q) (nI 0)) = (clr kp (9 * i) (q + 1)) := clr_s _ _ _
              have hP := (congrArg (fun z9 => va_P D vwCl (wM ct g n dc pa va dl ge su (remM mk i 150) dp sq tc z9 (gof true true true)) H) e9).mp hP
              have hD := (congrArg (fun z9 => va_D A (wM ct g n dc pa va dl ge su (remM mk i 150) dp sq tc z9 (gof true true true))) e9).mp hD
              have hP : va_P D vwCl (wM ct g n dc pa va dl ge su (remM mk i 150) dp sq tc (clr kp (9 * i) (q + 1)) (gof true true true)) H := hP
              have hD : va_D A (wM ct g n dc pa va dl ge su (remM mk i 150) dp sq tc (clr kp (9 * i) (q + 1)) (gof true true true)) := hD
              exact ih68 (q + 1) (by first | assumption | omega) (by omega) H locs ls hP hD hS (lv_sub hl [0, 1, 2, 3] rfl)
        have e9 : kp = (clr kp (9 * i) 0) := clr_0 _ _
        have hP := (congrArg (fun z9 => va_P D vwCl (wM ct g n dc pa va dl ge su (remM mk i 150) dp sq tc z9 (gof true true true)) H) e9).mp hP
        have hD := (congrArg (fun z9 => va_D A (wM ct g n dc pa va dl ge su (remM mk i 150) dp sq tc z9 (gof true true true))) e9).mp hD
        have hP : va_P D vwCl (wM ct g n dc pa va dl ge su (remM mk i 150) dp sq tc (clr kp (9 * i) 0) (gof true true true)) H := hP
        have hD : va_D A (wM ct g n dc pa va dl ge su (remM mk i 150) dp sq tc (clr kp (9 * i) 0) (gof true true true)) := hD
        exact key68 ((9 - 0) + 1) 0 (by first | assumption | omega) (Nat.lt_succ_self _) H locs ls hP hD hS (lv_sub hl [0, 1, 2, 3] rfl)
      · refine lv_iload_n hx hb dX4_wipe_24 rfl (lv_at hl 1 rfl) ?_
        refine lv_aload_n hx hb dX4_wipe_25 rfl (lv_at hl 2 rfl) ?_
        refine va_get (D := D) (ci := 4) (v := .ref (g 7)) (C := RX4) (T := TX4) (N := 13) hx hb hts (fun _ h => List.mem_cons_of_mem _ (List.mem_append_right _ h)) hown hK.1 hP 0 rfl rfl 7 (by decide) (hts (.fieldLink RX4 29 "RevisionStoresModel" "marks" "[Z") (List.mem_of_getElem? (i := 1) rfl)) (fun _ h9 => h9) rfl dX4_wipe_26 ?_
        refine lv_sipush (v := nI 150) hx hb dX4_wipe_29 (by decide) ?_
        refine lv_iload_n hx hb dX4_wipe_32 rfl (lv_at hl 3 rfl) ?_
        refine r_imulN hx hb dX4_wipe_33 ?_
        refine lv_iload_n hx hb dX4_wipe_34 rfl (lv_at hl 0 rfl) ?_
        refine r_iaddN hx hb dX4_wipe_35 ?_
        refine r_zald (j := (150 * i) + k) (v := bI ((remM mk i k) ((150 * i) + k))) hx hb hK.1 hP 7 1 rfl rfl (by omega) (by first | decide | omega) rfl dX4_wipe_36 ?_
        refine r_top (y := bI (mrw mk i k)) (congrArg bI (show ((remM mk i k) ((150 * i) + k)) = (mrw mk i k) from remM_k _ _ _)) ?_
        refine r_if_eqB (x := mrw mk i k) (tgt := 44) hx hb dX4_wipe_37 (by decide) (fun c37 => ?_) (fun c37 => ?_)
        · refine lv_iconst (v := nI 0) hx hb dX4_wipe_44 (by decide) ?_
          refine r_iaddN hx hb dX4_wipe_45 ?_
          refine lv_istore_n (lv' := [(2, .int (nI ((fct (mrw mk i) k) + 0))), (3, .int (nI k)), (0, .ref (g 0)), (1, .int (nI i))]) hx hb dX4_wipe_46 rfl hl (by decide) rfl (fun ls hl => ?_)
          refine lv_aload_n hx hb dX4_wipe_47 rfl (lv_at hl 2 rfl) ?_
          refine va_get (D := D) (ci := 4) (v := .ref (g 7)) (C := RX4) (T := TX4) (N := 13) hx hb hts (fun _ h => List.mem_cons_of_mem _ (List.mem_append_right _ h)) hown hK.1 hP 0 rfl rfl 7 (by decide) (hts (.fieldLink RX4 29 "RevisionStoresModel" "marks" "[Z") (List.mem_of_getElem? (i := 1) rfl)) (fun _ h9 => h9) rfl dX4_wipe_48 ?_
          refine lv_sipush (v := nI 150) hx hb dX4_wipe_51 (by decide) ?_
          refine lv_iload_n hx hb dX4_wipe_54 rfl (lv_at hl 3 rfl) ?_
          refine r_imulN hx hb dX4_wipe_55 ?_
          refine lv_iload_n hx hb dX4_wipe_56 rfl (lv_at hl 1 rfl) ?_
          refine r_iaddN hx hb dX4_wipe_57 ?_
          refine lv_iconst (v := nI 0) hx hb dX4_wipe_58 (by decide) ?_
          refine r_zast (j := (150 * i) + k) (x := false) (f' := fun q9 => bI ((va_up (remM mk i k) ((150 * i) + k) false) q9)) hx hb hK.1 hP hD hS 7 1 rfl rfl (by omega) (by first | decide | omega) (up_b _ _ _) dX4_wipe_59 (fun H locs hP hD hS => ?_)
          have hP : va_P D vwCl (wM ct g n dc pa va dl ge su (va_up (remM mk i k) ((150 * i) + k) false) dp sq tc kp (gof true true true)) H := hP
          have hD : va_D A (wM ct g n dc pa va dl ge su (va_up (remM mk i k) ((150 * i) + k) false) dp sq tc kp (gof true true true)) := hD
          refine lv_iinc (v := nI (k + 1)) (lv' := [(3, .int (nI (k + 1))), (2, .int (nI ((fct (mrw mk i) k) + 0))), (0, .ref (g 0)), (1, .int (nI i))]) hx hb dX4_wipe_60 hl (k := 1) rfl (nI_1 _) (by decide) rfl (fun ls hl => ?_)
          refine lv_goto (tgt := 17) hx hb dX4_wipe_63 (by decide) ?_
          have hl := lv_re (f := fun z9 => [(3, .int (nI (k + 1))), (2, .int z9), (0, .ref (g 0)), (1, .int (nI i))]) hl (show nI ((fct (mrw mk i) k) + 0) = nI (fct (mrw mk i) (k + 1)) from congrArg nI (show ((fct (mrw mk i) k) + 0) = (fct (mrw mk i) (k + 1)) from by simp [fct, c12, c21, c37]))
          have e9 : (va_up (remM mk i k) ((150 * i) + k) false) = (remM mk i (k + 1)) := remM_s _ _ _
          have hP := (congrArg (fun z9 => va_P D vwCl (wM ct g n dc pa va dl ge su z9 dp sq tc kp (gof true true true)) H) e9).mp hP
          have hD := (congrArg (fun z9 => va_D A (wM ct g n dc pa va dl ge su z9 dp sq tc kp (gof true true true))) e9).mp hD
          have hP : va_P D vwCl (wM ct g n dc pa va dl ge su (remM mk i (k + 1)) dp sq tc kp (gof true true true)) H := hP
          have hD : va_D A (wM ct g n dc pa va dl ge su (remM mk i (k + 1)) dp sq tc kp (gof true true true)) := hD
          exact ih17 (k + 1) (by first | assumption | omega) (by omega) H locs ls hP hD hS (lv_sub hl [0, 1, 2, 3] rfl)
        · refine lv_iconst (v := nI 1) hx hb dX4_wipe_40 (by decide) ?_
          refine lv_goto (tgt := 45) hx hb dX4_wipe_41 (by decide) ?_
          refine r_iaddN hx hb dX4_wipe_45 ?_
          refine lv_istore_n (lv' := [(2, .int (nI ((fct (mrw mk i) k) + 1))), (3, .int (nI k)), (0, .ref (g 0)), (1, .int (nI i))]) hx hb dX4_wipe_46 rfl hl (by decide) rfl (fun ls hl => ?_)
          refine lv_aload_n hx hb dX4_wipe_47 rfl (lv_at hl 2 rfl) ?_
          refine va_get (D := D) (ci := 4) (v := .ref (g 7)) (C := RX4) (T := TX4) (N := 13) hx hb hts (fun _ h => List.mem_cons_of_mem _ (List.mem_append_right _ h)) hown hK.1 hP 0 rfl rfl 7 (by decide) (hts (.fieldLink RX4 29 "RevisionStoresModel" "marks" "[Z") (List.mem_of_getElem? (i := 1) rfl)) (fun _ h9 => h9) rfl dX4_wipe_48 ?_
          refine lv_sipush (v := nI 150) hx hb dX4_wipe_51 (by decide) ?_
          refine lv_iload_n hx hb dX4_wipe_54 rfl (lv_at hl 3 rfl) ?_
          refine r_imulN hx hb dX4_wipe_55 ?_
          refine lv_iload_n hx hb dX4_wipe_56 rfl (lv_at hl 1 rfl) ?_
          refine r_iaddN hx hb dX4_wipe_57 ?_
          refine lv_iconst (v := nI 0) hx hb dX4_wipe_58 (by decide) ?_
          refine r_zast (j := (150 * i) + k) (x := false) (f' := fun q9 => bI ((va_up (remM mk i k) ((150 * i) + k) false) q9)) hx hb hK.1 hP hD hS 7 1 rfl rfl (by omega) (by first | decide | omega) (up_b _ _ _) dX4_wipe_59 (fun H locs hP hD hS => ?_)
          have hP : va_P D vwCl (wM ct g n dc pa va dl ge su (va_up (remM mk i k) ((150 * i) + k) false) dp sq tc kp (gof true true true)) H := hP
          have hD : va_D A (wM ct g n dc pa va dl ge su (va_up (remM mk i k) ((150 * i) + k) false) dp sq tc kp (gof true true true)) := hD
          refine lv_iinc (v := nI (k + 1)) (lv' := [(3, .int (nI (k + 1))), (2, .int (nI ((fct (mrw mk i) k) + 1))), (0, .ref (g 0)), (1, .int (nI i))]) hx hb dX4_wipe_60 hl (k := 1) rfl (nI_1 _) (by decide) rfl (fun ls hl => ?_)
          refine lv_goto (tgt := 17) hx hb dX4_wipe_63 (by decide) ?_
          have hl := lv_re (f := fun z9 => [(3, .int (nI (k + 1))), (2, .int z9), (0, .ref (g 0)), (1, .int (nI i))]) hl (show nI ((fct (mrw mk i) k) + 1) = nI (fct (mrw mk i) (k + 1)) from congrArg nI (show ((fct (mrw mk i) k) + 1) = (fct (mrw mk i) (k + 1)) from by simp [fct, c12, c21, c37]))
          have e9 : (va_up (remM mk i k) ((150 * i) + k) false) = (remM mk i (k + 1)) := remM_s _ _ _
          have hP := (congrArg (fun z9 => va_P D vwCl (wM ct g n dc pa va dl ge su z9 dp sq tc kp (gof true true true)) H) e9).mp hP
          have hD := (congrArg (fun z9 => va_D A (wM ct g n dc pa va dl ge su z9 dp sq tc kp (gof true true true))) e9).mp hD
          have hP : va_P D vwCl (wM ct g n dc pa va dl ge su (remM mk i (k + 1)) dp sq tc kp (gof true true true)) H := hP
          have hD : va_D A (wM ct g n dc pa va dl ge su (remM mk i (k + 1)) dp sq tc kp (gof true true true)) := hD
          exact ih17 (k + 1) (by first | assumption | omega) (by omega) H locs ls hP hD hS (lv_sub hl [0, 1, 2, 3] rfl)
  have hl := lv_re (f := fun z9 => [(3, .int (nI 0)), (2, .int z9), (0, .ref (g 0)), (1, .int (nI i))]) hl (show nI 0 = nI (fct (mrw mk i) 0) from congrArg nI (show 0 = (fct (mrw mk i) 0) from rfl))
  have e9 : mk = (remM mk i 0) := remM_0 _ _
  have hP := (congrArg (fun z9 => va_P D vwCl (wM ct g n dc pa va dl ge su z9 dp sq tc kp (gof true true true)) H) e9).mp hP
  have hD := (congrArg (fun z9 => va_D A (wM ct g n dc pa va dl ge su z9 dp sq tc kp (gof true true true))) e9).mp hD
  have hP : va_P D vwCl (wM ct g n dc pa va dl ge su (remM mk i 0) dp sq tc kp (gof true true true)) H := hP
  have hD : va_D A (wM ct g n dc pa va dl ge su (remM mk i 0) dp sq tc kp (gof true true true)) := hD
  exact key17 ((150 - 0) + 1) 0 (by first | assumption | omega) (Nat.lt_succ_self _) H locs ls hP hD hS (lv_sub hl [0, 1, 2, 3] rfl)
set_option maxHeartbeats 8000000 in
set_option maxRecDepth 100000 in
theorem cX4_wipe_bad (l : Launch) (D : va_G) (ct : Nat → ClassId) (g : Nat → Nat) (n : Nat) (dc : Nat → Nat) (pa : Nat → Option Nat) (va : Nat → Int32) (dl : Nat → Bool) (ge : Nat → Nat) (su : Nat → Int32) (mk : Nat → Bool) (dp : Nat → Int32) (sq : Nat → Int32) (tc : Nat → Int32) (kp : Nat → Int32) (la : Int32) (p0 : Int32) (hbad : inn p0 (nI 0) (nI 2) = false) (sz : Nat) : Met l yX4_wipe wsX4_wipe ({ frames := 2, cells := 0, slots := 0, locals := 42 } : Room) (wrPc D ct [.ref (g 0), .int p0] (wM ct g n dc pa va dl ge su mk dp sq tc kp la) sz) (wqI D (nI 0) (wM ct g n dc pa va dl ge su mk dp sq tc kp (nI 1)) (va_A (wM ct g n dc pa va dl ge su mk dp sq tc kp la) sz)) 0 0 (va_A (wM ct g n dc pa va dl ge su mk dp sq tc kp la) sz) := by
  refine Met.ofW (cc := cX4_wipe) (maxL := 4) (ret := (some .int)) (by decide) rfl ?_
  intro p e s m args below meth c s₁ B hml hv
  obtain ⟨rfl, hsz, hP, hK, hD0⟩ := hv
  have hx := B.exec
  have hb := B.bytes
  have hr := B.returns
  have hts := atoms_spec (ws := wsX4_wipe) B.pre
  have hown : s.vm.findClass RX4 = some m.cls := findClass_of_methodNamed B.named
  have hlocks := B.notSynchronized
  subst hsz
  have hD := hD0.self (sz := s.heap.size)
  generalize hAe : va_A (wM ct g n dc pa va dl ge su mk dp sq tc kp la) s.heap.size = A at hD ⊢
  have hA : ∀ q : Nat, s.heap.size ≤ q → A q := fun q h => by rw [← hAe]; exact Or.inr h
  have hS : va_S A s.heap s.heap [] := va_S.rf
  have hP : va_P D vwCl (wM ct g n dc pa va dl ge su mk dp sq tc kp la) s.heap := hP
  clear hAe hD0
  have hl := lv_entry ([.ref (g 0), .int p0]) (n := 4) (Nat.le_of_ble_eq_true rfl)
  rw [lg_entry_eq]
  generalize (lg_sl ([.ref (g 0), .int p0]) ++ List.replicate (4 - (lg_sl ([.ref (g 0), .int p0])).length) Slot.unset).toArray = ls at hl ⊢
  have hl : lv_has ls 4 [(0, .ref (g 0)), (1, .int p0)] := hl
  have hH0 : s.heap.size ≤ s.heap.size := Nat.le_refl _
  refine lv_iconst (v := nI 0) hx hb dX4_wipe_0 (by decide) ?_
  refine lv_istore_n (lv' := [(2, .int (nI 0)), (0, .ref (g 0)), (1, .int p0)]) hx hb dX4_wipe_1 rfl hl (by decide) rfl (fun ls hl => ?_)
  refine lv_aload_n hx hb dX4_wipe_2 rfl (lv_at hl 1 rfl) ?_
  refine lv_iload_n hx hb dX4_wipe_3 rfl (lv_at hl 2 rfl) ?_
  refine r_cS (As := [.int p0]) (rest := [.ref (g 0)]) ⟨hx, hb, hml, hown, hts⟩ (cX4_isStore_ok l D ct p0 ) (va_cwS 1 hts gX4_wipe_X4_isStore rfl rfl rfl (by decide +kernel) ⟨Nat.le_of_ble_eq_true rfl, Nat.le_of_ble_eq_true rfl⟩) hK va_Pnil rfl hl.1 rfl (Nat.le_of_ble_eq_true rfl) dX4_wipe_4 ⟨Nat.le_of_ble_eq_true rfl, Nat.le_of_ble_eq_true rfl⟩ ?_
  refine r_top (y := bI false) (congrArg bI (show (inn p0 (nI 0) (nI 2)) = false from hbad)) ?_
  refine lv_iconst (v := nI 1) hx hb dX4_wipe_7 (by decide) ?_
  refine lv_iconst (v := nI 1) hx hb dX4_wipe_8 (by decide) ?_
  refine r_wVi (As := [.int (bI false), .int (bI true), .int (bI true)]) (rest := []) ⟨hx, hb, hml, hown, hts⟩ (cX4_goes_ok l D ct g n dc pa va dl ge su mk dp sq tc kp la false true true  s.heap.size) (cwV 3 hts gX4_wipe_X4_goes rfl rfl rfl (by decide +kernel) ⟨Nat.le_of_ble_eq_true rfl, Nat.le_of_ble_eq_true rfl⟩) hK hP hD hS hA [0, 1, 2, 3, 4, 5, 6, 7, 8, 9, 10, 11] rfl rfl rfl 0 4 rfl rfl rfl hl.1 rfl (Nat.le_of_ble_eq_true rfl) dX4_wipe_9 ⟨Nat.le_of_ble_eq_true rfl, Nat.le_of_ble_eq_true rfl⟩ (fun H locs hP hD hS => ?_)
  have hP : va_P D vwCl (wM ct g n dc pa va dl ge su mk dp sq tc kp (gof false true true)) H := hP
  have hD : va_D A (wM ct g n dc pa va dl ge su mk dp sq tc kp (gof false true true)) := hD
  refine r_top (y := bI false) (congrArg bI (show (false && (true && true)) = false from rfl)) ?_
  refine r_if_eqB (x := false) (tgt := 123) hx hb dX4_wipe_12 (by decide) (fun c12 => ?_) (fun c12 => by cases c12)
  refine lv_iload_n hx hb dX4_wipe_123 rfl (lv_at hl 0 rfl) ?_
  have e9 : (gof false true true) = (nI 1) := rfl
  have hP := (congrArg (fun z9 => va_P D vwCl (wM ct g n dc pa va dl ge su mk dp sq tc kp z9) H) e9).mp hP
  have hP : va_P D vwCl (wM ct g n dc pa va dl ge su mk dp sq tc kp (nI 1)) H := hP
  exact W.iret hx hb hr (fun t ht hW => ⟨⟨_, (), rfl, rfl, by show va_P D vwCl _ t.heap; rw [ht]; exact hP⟩, hS.F ht⟩) hS.2.2 dX4_wipe_124
set_option maxHeartbeats 8000000 in
set_option maxRecDepth 100000 in
theorem cX4_begins_ok (l : Launch) (D : va_G) (ct : Nat → ClassId) (g : Nat → Nat) (n : Nat) (dc : Nat → Nat) (pa : Nat → Option Nat) (va : Nat → Int32) (dl : Nat → Bool) (ge : Nat → Nat) (su : Nat → Int32) (mk : Nat → Bool) (dp : Nat → Int32) (sq : Nat → Int32) (tc : Nat → Int32) (kp : Nat → Int32) (la : Int32) (i : Nat) (j : Nat) (hi : i < 3) (hj : j < 3) : Met l yX4_begins wsX4_begins ({ frames := 0, cells := 0, slots := 0, locals := 0 } : Room) (roPc D ct [.ref (g 0), .int (nI i), .int (nI j)] (wM ct g n dc pa va dl ge su mk dp sq tc kp la)) (rqI (lkC kp i j)) 0 0 (fun _ => False) := by
  refine Met.ofW (cc := cX4_begins) (maxL := 5) (ret := (some .int)) (by decide) rfl ?_
  intro p e s m args below meth c s₁ B hml hv
  obtain ⟨rfl, hP, hK⟩ := hv
  have hx := B.exec
  have hb := B.bytes
  have hr := B.returns
  have hts := atoms_spec (ws := wsX4_begins) B.pre
  have hown : s.vm.findClass RX4 = some m.cls := findClass_of_methodNamed B.named
  have hlocks := B.notSynchronized
  have hl := lv_entry ([.ref (g 0), .int (nI i), .int (nI j)]) (n := 5) (Nat.le_of_ble_eq_true rfl)
  rw [lg_entry_eq]
  generalize (lg_sl ([.ref (g 0), .int (nI i), .int (nI j)]) ++ List.replicate (5 - (lg_sl ([.ref (g 0), .int (nI i), .int (nI j)])).length) Slot.unset).toArray = ls at hl ⊢
  have hl : lv_has ls 5 [(0, .ref (g 0)), (1, .int (nI i)), (2, .int (nI j))] := hl
  refine lv_aload_n hx hb dX4_begins_0 rfl (lv_at hl 0 rfl) ?_
  refine va_get (D := D) (ci := 4) (v := .ref (g 11)) (C := RX4) (T := TX4) (N := 13) hx hb hts (fun _ h => List.mem_cons_of_mem _ (List.mem_append_right _ h)) hown hK.1 hP 0 rfl rfl 11 (by decide) (hts (.fieldLink RX4 41 "RevisionStoresModel" "kept" "[I") (List.mem_of_getElem? (i := 1) rfl)) (fun _ h9 => h9) rfl dX4_begins_1 ?_
  refine lv_bipush (v := nI 9) hx hb dX4_begins_4 (by decide) ?_
  refine lv_iload_n hx hb dX4_begins_6 rfl (lv_at hl 1 rfl) ?_
  refine r_imulN hx hb dX4_begins_7 ?_
  refine lv_iconst (v := nI 3) hx hb dX4_begins_8 (by decide) ?_
  refine lv_iload_n hx hb dX4_begins_9 rfl (lv_at hl 1 rfl) ?_
  refine r_imulN hx hb dX4_begins_10 ?_
  refine r_iaddN hx hb dX4_begins_11 ?_
  refine lv_iload_n hx hb dX4_begins_12 rfl (lv_at hl 2 rfl) ?_
  refine r_iaddN hx hb dX4_begins_13 ?_
  refine r_iald (j := ((9 * i) + (3 * i)) + j) (v := kp (((9 * i) + (3 * i)) + j)) hx hb hK.1 hP 11 0 rfl rfl (by omega) (by first | decide | omega) rfl dX4_begins_14 ?_
  refine lv_istore_n (lv' := [(3, .int (kp (((9 * i) + (3 * i)) + j))), (0, .ref (g 0)), (1, .int (nI i)), (2, .int (nI j))]) hx hb dX4_begins_15 rfl hl (by decide) rfl (fun ls hl => ?_)
  refine lv_aload_n hx hb dX4_begins_16 rfl (lv_at hl 1 rfl) ?_
  refine va_get (D := D) (ci := 4) (v := .ref (g 11)) (C := RX4) (T := TX4) (N := 13) hx hb hts (fun _ h => List.mem_cons_of_mem _ (List.mem_append_right _ h)) hown hK.1 hP 0 rfl rfl 11 (by decide) (hts (.fieldLink RX4 41 "RevisionStoresModel" "kept" "[I") (List.mem_of_getElem? (i := 1) rfl)) (fun _ h9 => h9) rfl dX4_begins_17 ?_
  refine lv_bipush (v := nI 9) hx hb dX4_begins_20 (by decide) ?_
  refine lv_iload_n hx hb dX4_begins_22 rfl (lv_at hl 3 rfl) ?_
  refine r_imulN hx hb dX4_begins_23 ?_
  refine lv_iconst (v := nI 3) hx hb dX4_begins_24 (by decide) ?_
  refine lv_iload_n hx hb dX4_begins_25 rfl (lv_at hl 2 rfl) ?_
  refine r_imulN hx hb dX4_begins_26 ?_
  refine r_iaddN hx hb dX4_begins_27 ?_
  refine lv_iload_n hx hb dX4_begins_28 rfl (lv_at hl 3 rfl) ?_
  refine r_iaddN hx hb dX4_begins_29 ?_
  refine r_iald (j := ((9 * j) + (3 * i)) + j) (v := kp (((9 * j) + (3 * i)) + j)) hx hb hK.1 hP 11 0 rfl rfl (by omega) (by first | decide | omega) rfl dX4_begins_30 ?_
  refine lv_istore (lv' := [(4, .int (kp (((9 * j) + (3 * i)) + j))), (3, .int (kp (((9 * i) + (3 * i)) + j))), (0, .ref (g 0)), (1, .int (nI i)), (2, .int (nI j))]) hx hb dX4_begins_31 hl (by decide) rfl (fun ls hl => ?_)
  refine lv_iload_n hx hb dX4_begins_33 rfl (lv_at hl 1 rfl) ?_
  refine lv_iload hx hb dX4_begins_34 (lv_at hl 0 rfl) ?_
  refine lv_icmp_ge (x := kp (((9 * i) + (3 * i)) + j)) (y := kp (((9 * j) + (3 * i)) + j)) (tgt := 43) hx hb dX4_begins_36 (by decide) (fun c36 => ?_) (fun c36 => ?_)
  · refine lv_iload hx hb dX4_begins_43 (lv_at hl 0 rfl) ?_
    refine r_top (y := lkC kp i j) (by simp [lkC, c36]) ?_
    exact W.iret hx hb hr (fun t ht hW => ⟨_, rfl, rfl, ht⟩) (fun _ h => by cases h) dX4_begins_45
  · refine lv_iload_n hx hb dX4_begins_39 rfl (lv_at hl 1 rfl) ?_
    refine lv_goto (tgt := 45) hx hb dX4_begins_40 (by decide) ?_
    refine r_top (y := lkC kp i j) (by simp [lkC, c36]) ?_
    exact W.iret hx hb hr (fun t ht hW => ⟨_, rfl, rfl, ht⟩) (fun _ h => by cases h) dX4_begins_45
set_option maxHeartbeats 8000000 in
set_option maxRecDepth 100000 in
theorem cX4_nextOf_ok (l : Launch) (D : va_G) (ct : Nat → ClassId) (g : Nat → Nat) (n : Nat) (dc : Nat → Nat) (pa : Nat → Option Nat) (va : Nat → Int32) (dl : Nat → Bool) (ge : Nat → Nat) (su : Nat → Int32) (mk : Nat → Bool) (dp : Nat → Int32) (sq : Nat → Int32) (tc : Nat → Int32) (kp : Nat → Int32) (la : Int32) (i : Nat) (x : Int32) (hi : i < 3) : Met l yX4_nextOf wsX4_nextOf ({ frames := 0, cells := 0, slots := 0, locals := 0 } : Room) (roPc D ct [.ref (g 0), .int (nI i), .int x] (wM ct g n dc pa va dl ge su mk dp sq tc kp la)) (rqI (eP (nxS (tcr tc i) x 4))) 0 0 (fun _ => False) := by
  refine Met.ofW (cc := cX4_nextOf) (maxL := 6) (ret := (some .int)) (by decide) rfl ?_
  intro p e s m args below meth c s₁ B hml hv
  obtain ⟨rfl, hP, hK⟩ := hv
  have hx := B.exec
  have hb := B.bytes
  have hr := B.returns
  have hts := atoms_spec (ws := wsX4_nextOf) B.pre
  have hown : s.vm.findClass RX4 = some m.cls := findClass_of_methodNamed B.named
  have hlocks := B.notSynchronized
  have hl := lv_entry ([.ref (g 0), .int (nI i), .int x]) (n := 6) (Nat.le_of_ble_eq_true rfl)
  rw [lg_entry_eq]
  generalize (lg_sl ([.ref (g 0), .int (nI i), .int x]) ++ List.replicate (6 - (lg_sl ([.ref (g 0), .int (nI i), .int x])).length) Slot.unset).toArray = ls at hl ⊢
  have hl : lv_has ls 6 [(0, .ref (g 0)), (1, .int (nI i)), (2, .int x)] := hl
  refine lv_iconst (v := -1) hx hb dX4_nextOf_0 (by decide) ?_
  refine lv_istore_n (lv' := [(3, .int (eP none)), (0, .ref (g 0)), (1, .int (nI i)), (2, .int x)]) hx hb dX4_nextOf_1 rfl hl (by decide) rfl (fun ls hl => ?_)
  refine lv_iconst (v := nI 0) hx hb dX4_nextOf_2 (by decide) ?_
  refine lv_istore (lv' := [(4, .int (nI 0)), (3, .int (eP none)), (0, .ref (g 0)), (1, .int (nI i)), (2, .int x)]) hx hb dX4_nextOf_3 hl (by decide) rfl (fun ls hl => ?_)
  have key5 : ∀ (d5 : Nat) (k : Nat) (hk : k ≤ 4), 4 - k < d5 → ∀  (ls : Array Slot), lv_has ls 6 [(4, .int (nI k)), (3, .int (eP (nxS (tcr tc i) x k))), (0, .ref (g 0)), (1, .int (nI i)), (2, .int x)] → W p l e ({ frames := 0, cells := 0, slots := 0, locals := 0 } : Room) s m ([.ref (g 0), .int (nI i), .int x] : List Value).toArray below meth c s.heap [] 0 0 (MQ below (rqI (eP (nxS (tcr tc i) x 4))) ([.ref (g 0), .int (nI i), .int x] : List Value).toArray s 0 0 (fun _ => False)) (F0 m 5 ls []) := by
    intro d5
    induction d5 with
    | zero => intro k hk h9; exact absurd h9 (Nat.not_lt_zero _)
    | succ d5 ih5 =>
      intro k hk hm5  ls  hl
      refine lv_iload hx hb dX4_nextOf_5 (lv_at hl 0 rfl) ?_
      refine lv_iconst (v := nI 4) hx hb dX4_nextOf_7 (by decide) ?_
      refine r_icmp_geN hx hb (x := k) (y := 4) (by first | omega | decide) (by first | omega | decide) (tgt := 63) dX4_nextOf_8 (by decide) (fun c8 => ?_) (fun c8 => ?_)
      · refine lv_iload_n hx hb dX4_nextOf_63 rfl (lv_at hl 1 rfl) ?_
        refine r_top (y := eP (nxS (tcr tc i) x 4)) (congrArg eP (show (nxS (tcr tc i) x k) = (nxS (tcr tc i) x 4) from by rw [show k = 4 by omega])) ?_
        exact W.iret hx hb hr (fun t ht hW => ⟨_, rfl, rfl, ht⟩) (fun _ h => by cases h) dX4_nextOf_64
      · refine lv_aload_n hx hb dX4_nextOf_11 rfl (lv_at hl 2 rfl) ?_
        refine va_get (D := D) (ci := 4) (v := .ref (g 10)) (C := RX4) (T := TX4) (N := 13) hx hb hts (fun _ h => List.mem_cons_of_mem _ (List.mem_append_right _ h)) hown hK.1 hP 0 rfl rfl 10 (by decide) (hts (.fieldLink RX4 38 "RevisionStoresModel" "touched" "[I") (List.mem_of_getElem? (i := 1) rfl)) (fun _ h9 => h9) rfl dX4_nextOf_12 ?_
        refine lv_iconst (v := nI 4) hx hb dX4_nextOf_15 (by decide) ?_
        refine lv_iload_n hx hb dX4_nextOf_16 rfl (lv_at hl 3 rfl) ?_
        refine r_imulN hx hb dX4_nextOf_17 ?_
        refine lv_iload hx hb dX4_nextOf_18 (lv_at hl 0 rfl) ?_
        refine r_iaddN hx hb dX4_nextOf_20 ?_
        refine r_iald (j := (4 * i) + k) (v := tc ((4 * i) + k)) hx hb hK.1 hP 10 0 rfl rfl (by omega) (by first | decide | omega) rfl dX4_nextOf_21 ?_
        refine lv_istore (lv' := [(5, .int (tc ((4 * i) + k))), (4, .int (nI k)), (3, .int (eP (nxS (tcr tc i) x k))), (0, .ref (g 0)), (1, .int (nI i)), (2, .int x)]) hx hb dX4_nextOf_22 hl (by decide) rfl (fun ls hl => ?_)
        refine lv_iload hx hb dX4_nextOf_24 (lv_at hl 0 rfl) ?_
        refine lv_iload_n hx hb dX4_nextOf_26 rfl (lv_at hl 5 rfl) ?_
        refine lv_icmp_le (x := tc ((4 * i) + k)) (y := x) (tgt := 55) hx hb dX4_nextOf_27 (by decide) (fun c27 => ?_) (fun c27 => ?_)
        · refine lv_iload_n hx hb dX4_nextOf_55 rfl (lv_at hl 2 rfl) ?_
          refine lv_istore_n (lv' := [(3, .int (eP (nxS (tcr tc i) x k))), (5, .int (tc ((4 * i) + k))), (4, .int (nI k)), (0, .ref (g 0)), (1, .int (nI i)), (2, .int x)]) hx hb dX4_nextOf_56 rfl hl (by decide) rfl (fun ls hl => ?_)
          refine lv_iinc (v := nI (k + 1)) (lv' := [(4, .int (nI (k + 1))), (3, .int (eP (nxS (tcr tc i) x k))), (5, .int (tc ((4 * i) + k))), (0, .ref (g 0)), (1, .int (nI i)), (2, .int x)]) hx hb dX4_nextOf_57 hl (k := 2) rfl (nI_1 _) (by decide) rfl (fun ls hl => ?_)
          refine lv_goto (tgt := 5) hx hb dX4_nextOf_60 (by decide) ?_
          have hl := lv_re (f := fun z9 => [(4, .int (nI (k + 1))), (3, .int z9), (5, .int (tc ((4 * i) + k))), (0, .ref (g 0)), (1, .int (nI i)), (2, .int x)]) hl (show eP (nxS (tcr tc i) x k) = eP (nxS (tcr tc i) x (k + 1)) from congrArg eP (show (nxS (tcr tc i) x k) = (nxS (tcr tc i) x (k + 1)) from by show _ = nxp (tcr tc i) x k (nxS (tcr tc i) x k); simp [nxp, tcr, c8, c27]))
          exact ih5 (k + 1) (by first | assumption | omega) (by omega)  ls  (lv_sub hl [0, 1, 3, 4, 5] rfl)
        · refine lv_iload_n hx hb dX4_nextOf_30 rfl (lv_at hl 2 rfl) ?_
          refine lv_iconst (v := -1) hx hb dX4_nextOf_31 (by decide) ?_
          refine r_icmp_eqP hx hb (x := nxS (tcr tc i) x k) (by intro j9 h9; have := nxS_lt _ _ _ _ h9; omega) (tgt := 50) dX4_nextOf_32 (by decide) (fun c32 => ?_) (fun j32 c32 => ?_)
          · have hl := lv_re (f := fun z9 => [(5, .int (tc ((4 * i) + k))), (4, .int (nI k)), (3, .int z9), (0, .ref (g 0)), (1, .int (nI i)), (2, .int x)]) hl (show eP (nxS (tcr tc i) x k) = eP none from congrArg eP c32)
            refine lv_iload hx hb dX4_nextOf_50 (lv_at hl 1 rfl) ?_
            refine lv_goto (tgt := 56) hx hb dX4_nextOf_52 (by decide) ?_
            refine lv_istore_n (lv' := [(3, .int (nI k)), (5, .int (tc ((4 * i) + k))), (4, .int (nI k)), (0, .ref (g 0)), (1, .int (nI i)), (2, .int x)]) hx hb dX4_nextOf_56 rfl hl (by decide) rfl (fun ls hl => ?_)
            refine lv_iinc (v := nI (k + 1)) (lv' := [(4, .int (nI (k + 1))), (3, .int (nI k)), (5, .int (tc ((4 * i) + k))), (0, .ref (g 0)), (1, .int (nI i)), (2, .int x)]) hx hb dX4_nextOf_57 hl (k := 2) rfl (nI_1 _) (by decide) rfl (fun ls hl => ?_)
            refine lv_goto (tgt := 5) hx hb dX4_nextOf_60 (by decide) ?_
            have hl := lv_re (f := fun z9 => [(4, .int (nI (k + 1))), (3, .int z9), (5, .int (tc ((4 * i) + k))), (0, .ref (g 0)), (1, .int (nI i)), (2, .int x)]) hl (show nI k = eP (nxS (tcr tc i) x (k + 1)) from congrArg eP (show some k = (nxS (tcr tc i) x (k + 1)) from by show _ = nxp (tcr tc i) x k (nxS (tcr tc i) x k); simp [nxp, tcr, c8, c27, c32]))
            exact ih5 (k + 1) (by first | assumption | omega) (by omega)  ls  (lv_sub hl [0, 1, 3, 4, 5] rfl)
          · have hl := lv_re (f := fun z9 => [(5, .int (tc ((4 * i) + k))), (4, .int (nI k)), (3, .int z9), (0, .ref (g 0)), (1, .int (nI i)), (2, .int x)]) hl (show eP (nxS (tcr tc i) x k) = nI j32 from congrArg eP c32)
            have e35 := nxS_lt _ _ _ _ c32
            refine lv_iload hx hb dX4_nextOf_35 (lv_at hl 0 rfl) ?_
            refine lv_aload_n hx hb dX4_nextOf_37 rfl (lv_at hl 3 rfl) ?_
            refine va_get (D := D) (ci := 4) (v := .ref (g 10)) (C := RX4) (T := TX4) (N := 13) hx hb hts (fun _ h => List.mem_cons_of_mem _ (List.mem_append_right _ h)) hown hK.1 hP 0 rfl rfl 10 (by decide) (hts (.fieldLink RX4 38 "RevisionStoresModel" "touched" "[I") (List.mem_of_getElem? (i := 1) rfl)) (fun _ h9 => h9) rfl dX4_nextOf_38 ?_
            refine lv_iconst (v := nI 4) hx hb dX4_nextOf_41 (by decide) ?_
            refine lv_iload_n hx hb dX4_nextOf_42 rfl (lv_at hl 4 rfl) ?_
            refine r_imulN hx hb dX4_nextOf_43 ?_
            refine lv_iload_n hx hb dX4_nextOf_44 rfl (lv_at hl 2 rfl) ?_
            refine r_iaddN hx hb dX4_nextOf_45 ?_
            refine r_iald (j := (4 * i) + j32) (v := tc ((4 * i) + j32)) hx hb hK.1 hP 10 0 rfl rfl (by omega) (by first | decide | omega) rfl dX4_nextOf_46 ?_
            refine lv_icmp_ge (x := tc ((4 * i) + k)) (y := tc ((4 * i) + j32)) (tgt := 55) hx hb dX4_nextOf_47 (by decide) (fun c47 => ?_) (fun c47 => ?_)
            · refine lv_iload_n hx hb dX4_nextOf_55 rfl (lv_at hl 2 rfl) ?_
              refine lv_istore_n (lv' := [(3, .int (nI j32)), (5, .int (tc ((4 * i) + k))), (4, .int (nI k)), (0, .ref (g 0)), (1, .int (nI i)), (2, .int x)]) hx hb dX4_nextOf_56 rfl hl (by decide) rfl (fun ls hl => ?_)
              refine lv_iinc (v := nI (k + 1)) (lv' := [(4, .int (nI (k + 1))), (3, .int (nI j32)), (5, .int (tc ((4 * i) + k))), (0, .ref (g 0)), (1, .int (nI i)), (2, .int x)]) hx hb dX4_nextOf_57 hl (k := 2) rfl (nI_1 _) (by decide) rfl (fun ls hl => ?_)
              refine lv_goto (tgt := 5) hx hb dX4_nextOf_60 (by decide) ?_
              have hl := lv_re (f := fun z9 => [(4, .int (nI (k + 1))), (3, .int z9), (5, .int (tc ((4 * i) + k))), (0, .ref (g 0)), (1, .int (nI i)), (2, .int x)]) hl (show nI j32 = eP (nxS (tcr tc i) x (k + 1)) from congrArg eP (show some j32 = (nxS (tcr tc i) x (k + 1)) from by show _ = nxp (tcr tc i) x k (nxS (tcr tc i) x k); simp [nxp, tcr, c8, c27, c32, c47]))
              exact ih5 (k + 1) (by first | assumption | omega) (by omega)  ls  (lv_sub hl [0, 1, 3, 4, 5] rfl)
            · refine lv_iload hx hb dX4_nextOf_50 (lv_at hl 1 rfl) ?_
              refine lv_goto (tgt := 56) hx hb dX4_nextOf_52 (by decide) ?_
              refine lv_istore_n (lv' := [(3, .int (nI k)), (5, .int (tc ((4 * i) + k))), (4, .int (nI k)), (0, .ref (g 0)), (1, .int (nI i)), (2, .int x)]) hx hb dX4_nextOf_56 rfl hl (by decide) rfl (fun ls hl => ?_)
              refine lv_iinc (v := nI (k + 1)) (lv' := [(4, .int (nI (k + 1))), (3, .int (nI k)), (5, .int (tc ((4 * i) + k))), (0, .ref (g 0)), (1, .int (nI i)), (2, .int x)]) hx hb dX4_nextOf_57 hl (k := 2) rfl (nI_1 _) (by decide) rfl (fun ls hl => ?_)
              refine lv_goto (tgt := 5) hx hb dX4_nextOf_60 (by decide) ?_
              have hl := lv_re (f := fun z9 => [(4, .int (nI (k + 1))), (3, .int z9), (5, .int (tc ((4 * i) + k))), (0, .ref (g 0)), (1, .int (nI i)), (2, .int x)]) hl (show nI k = eP (nxS (tcr tc i) x (k + 1)) from congrArg eP (show some k = (nxS (tcr tc i) x (k + 1)) from by show _ = nxp (tcr tc i) x k (nxS (tcr tc i) x k); simp [nxp, tcr, c8, c27, c32, c47]))
              exact ih5 (k + 1) (by first | assumption | omega) (by omega)  ls  (lv_sub hl [0, 1, 3, 4, 5] rfl)
  have hl := lv_re (f := fun z9 => [(4, .int (nI 0)), (3, .int z9), (0, .ref (g 0)), (1, .int (nI i)), (2, .int x)]) hl (show eP none = eP (nxS (tcr tc i) x 0) from congrArg eP (show none = (nxS (tcr tc i) x 0) from rfl))
  exact key5 ((4 - 0) + 1) 0 (by first | assumption | omega) (Nat.lt_succ_self _)  ls  (lv_sub hl [0, 1, 2, 3, 4] rfl)
