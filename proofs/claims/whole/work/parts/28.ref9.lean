set_option maxHeartbeats 8000000 in
set_option maxRecDepth 100000 in
theorem cX4_pending_ok (l : Launch) (D : va_G) (ct : Nat → ClassId) (g : Nat → Nat) (n : Nat) (dc : Nat → Nat) (pa : Nat → Option Nat) (va : Nat → Int32) (dl : Nat → Bool) (ge : Nat → Nat) (su : Nat → Int32) (mk : Nat → Bool) (dp : Nat → Int32) (sq : Nat → Int32) (tc : Nat → Int32) (kp : Nat → Int32) (la : Int32) (i : Nat) (j : Nat) (hi : i < 3) (hj : j < 3) (hij : i ≠ j) (sz : Nat) : Met l yX4_pending wsX4_pending ({ frames := 2, cells := 0, slots := 0, locals := 42 } : Room) (wrPc D ct [.ref (g 0), .int (nI i), .int (nI j)] (wM ct g n dc pa va dl ge su mk dp sq tc kp la) sz) (wqI D (nI (fct (ccC (tcr tc i) (lkC kp i j)) 4)) (wM ct g n dc pa va dl ge su mk dp sq tc kp (nI 0)) (va_A (wM ct g n dc pa va dl ge su mk dp sq tc kp la) sz)) 0 0 (va_A (wM ct g n dc pa va dl ge su mk dp sq tc kp la) sz) := by
  refine Met.ofW (cc := cX4_pending) (maxL := 5) (ret := (some .int)) (by decide) rfl ?_
  intro p e s m args below meth c s₁ B hml hv
  obtain ⟨rfl, hsz, hP, hK, hD0⟩ := hv
  have hx := B.exec
  have hb := B.bytes
  have hr := B.returns
  have hts := atoms_spec (ws := wsX4_pending) B.pre
  have hown : s.vm.findClass RX4 = some m.cls := findClass_of_methodNamed B.named
  have hlocks := B.notSynchronized
  subst hsz
  have hD := hD0.self (sz := s.heap.size)
  generalize hAe : va_A (wM ct g n dc pa va dl ge su mk dp sq tc kp la) s.heap.size = A at hD ⊢
  have hA : ∀ q : Nat, s.heap.size ≤ q → A q := fun q h => by rw [← hAe]; exact Or.inr h
  have hS : va_S A s.heap s.heap [] := va_S.rf
  have hP : va_P D vwCl (wM ct g n dc pa va dl ge su mk dp sq tc kp la) s.heap := hP
  clear hAe hD0
  have hl := lv_entry ([.ref (g 0), .int (nI i), .int (nI j)]) (n := 5) (Nat.le_of_ble_eq_true rfl)
  rw [lg_entry_eq]
  generalize (lg_sl ([.ref (g 0), .int (nI i), .int (nI j)]) ++ List.replicate (5 - (lg_sl ([.ref (g 0), .int (nI i), .int (nI j)])).length) Slot.unset).toArray = ls at hl ⊢
  have hl : lv_has ls 5 [(0, .ref (g 0)), (1, .int (nI i)), (2, .int (nI j))] := hl
  have hH0 : s.heap.size ≤ s.heap.size := Nat.le_refl _
  refine lv_aload_n hx hb dX4_pending_0 rfl (lv_at hl 0 rfl) ?_
  refine lv_iload_n hx hb dX4_pending_1 rfl (lv_at hl 1 rfl) ?_
  refine r_cS (As := [.int (nI i)]) (rest := [.ref (g 0)]) ⟨hx, hb, hml, hown, hts⟩ (cX4_isStore_ok l D ct (nI i) ) (va_cwS 1 hts gX4_pending_X4_isStore rfl rfl rfl (by decide +kernel) ⟨Nat.le_of_ble_eq_true rfl, Nat.le_of_ble_eq_true rfl⟩) hK va_Pnil rfl hl.1 rfl (Nat.le_of_ble_eq_true rfl) dX4_pending_2 ⟨Nat.le_of_ble_eq_true rfl, Nat.le_of_ble_eq_true rfl⟩ ?_
  refine r_top (y := bI true) (congrArg bI (show (inn (nI i) (nI 0) (nI 2)) = true from inn_t (by omega) (by decide))) ?_
  refine r_if_eqB (x := true) (tgt := 19) hx hb dX4_pending_5 (by decide) (fun c5 => by cases c5) (fun c5 => ?_)
  refine lv_iload_n hx hb dX4_pending_8 rfl (lv_at hl 2 rfl) ?_
  refine r_cS (As := [.int (nI j)]) (rest := [.ref (g 0)]) ⟨hx, hb, hml, hown, hts⟩ (cX4_isStore_ok l D ct (nI j) ) (va_cwS 1 hts gX4_pending_X4_isStore rfl rfl rfl (by decide +kernel) ⟨Nat.le_of_ble_eq_true rfl, Nat.le_of_ble_eq_true rfl⟩) hK va_Pnil rfl hl.1 rfl (Nat.le_of_ble_eq_true rfl) dX4_pending_9 ⟨Nat.le_of_ble_eq_true rfl, Nat.le_of_ble_eq_true rfl⟩ ?_
  refine r_top (y := bI true) (congrArg bI (show (inn (nI j) (nI 0) (nI 2)) = true from inn_t (by omega) (by decide))) ?_
  refine r_if_eqB (x := true) (tgt := 19) hx hb dX4_pending_12 (by decide) (fun c12 => by cases c12) (fun c12 => ?_)
  refine lv_iconst (v := nI 1) hx hb dX4_pending_15 (by decide) ?_
  refine lv_goto (tgt := 20) hx hb dX4_pending_16 (by decide) ?_
  refine lv_iload_n hx hb dX4_pending_20 rfl (lv_at hl 1 rfl) ?_
  refine lv_iload_n hx hb dX4_pending_21 rfl (lv_at hl 2 rfl) ?_
  refine r_icmp_eqN hx hb (x := i) (y := j) (by first | omega | decide) (by first | omega | decide) (tgt := 29) dX4_pending_22 (by decide) (fun c22 => ?_) (fun c22 => ?_)
  · exact absurd c22 hij
  · refine lv_iconst (v := nI 1) hx hb dX4_pending_25 (by decide) ?_
    refine lv_goto (tgt := 30) hx hb dX4_pending_26 (by decide) ?_
    refine lv_iconst (v := nI 1) hx hb dX4_pending_30 (by decide) ?_
    refine r_wVi (As := [.int (bI true), .int (bI true), .int (bI true)]) (rest := []) ⟨hx, hb, hml, hown, hts⟩ (cX4_goes_ok l D ct g n dc pa va dl ge su mk dp sq tc kp la true true true  s.heap.size) (cwV 3 hts gX4_pending_X4_goes rfl rfl rfl (by decide +kernel) ⟨Nat.le_of_ble_eq_true rfl, Nat.le_of_ble_eq_true rfl⟩) hK hP hD hS hA [0, 1, 2, 3, 4, 5, 6, 7, 8, 9, 10, 11] rfl rfl rfl 0 4 rfl rfl rfl hl.1 rfl (Nat.le_of_ble_eq_true rfl) dX4_pending_31 ⟨Nat.le_of_ble_eq_true rfl, Nat.le_of_ble_eq_true rfl⟩ (fun H locs hP hD hS => ?_)
    have hP : va_P D vwCl (wM ct g n dc pa va dl ge su mk dp sq tc kp (gof true true true)) H := hP
    have hD : va_D A (wM ct g n dc pa va dl ge su mk dp sq tc kp (gof true true true)) := hD
    refine r_top (y := bI true) (congrArg bI (show (true && (true && true)) = true from rfl)) ?_
    refine r_if_neB (x := true) (tgt := 39) hx hb dX4_pending_34 (by decide) (fun c34 => ?_) (fun c34 => by cases c34)
    refine lv_iconst (v := nI 0) hx hb dX4_pending_39 (by decide) ?_
    refine lv_istore_n (lv' := [(3, .int (nI 0)), (0, .ref (g 0)), (1, .int (nI i)), (2, .int (nI j))]) hx hb dX4_pending_40 rfl hl (by decide) rfl (fun ls hl => ?_)
    refine lv_iconst (v := nI 0) hx hb dX4_pending_41 (by decide) ?_
    refine lv_istore (lv' := [(4, .int (nI 0)), (3, .int (nI 0)), (0, .ref (g 0)), (1, .int (nI i)), (2, .int (nI j))]) hx hb dX4_pending_42 hl (by decide) rfl (fun ls hl => ?_)
    have key44 : ∀ (d44 : Nat) (k : Nat) (hk : k ≤ 4), 4 - k < d44 → ∀ (H : Heap) (locs : List Loc) (ls : Array Slot), va_P D vwCl (wM ct g n dc pa va dl ge su mk dp sq tc kp (gof true true true)) H → va_D A (wM ct g n dc pa va dl ge su mk dp sq tc kp (gof true true true)) → va_S A s.heap H locs → lv_has ls 5 [(4, .int (nI k)), (3, .int (nI (fct (ccC (tcr tc i) (lkC kp i j)) k))), (0, .ref (g 0)), (1, .int (nI i)), (2, .int (nI j))] → W p l e ({ frames := 2, cells := 0, slots := 0, locals := 42 } : Room) s m ([.ref (g 0), .int (nI i), .int (nI j)] : List Value).toArray below meth c H locs 0 0 (MQ below (wqI D (nI (fct (ccC (tcr tc i) (lkC kp i j)) 4)) (wM ct g n dc pa va dl ge su mk dp sq tc kp (nI 0)) A) ([.ref (g 0), .int (nI i), .int (nI j)] : List Value).toArray s 0 0 A) (F0 m 44 ls []) := by
      intro d44
      induction d44 with
      | zero => intro k hk h9; exact absurd h9 (Nat.not_lt_zero _)
      | succ d44 ih44 =>
        intro k hk hm44 H locs ls hP hD hS hl
        refine lv_iload hx hb dX4_pending_44 (lv_at hl 0 rfl) ?_
        refine lv_iconst (v := nI 4) hx hb dX4_pending_46 (by decide) ?_
        refine r_icmp_geN hx hb (x := k) (y := 4) (by first | omega | decide) (by first | omega | decide) (tgt := 84) dX4_pending_47 (by decide) (fun c47 => ?_) (fun c47 => ?_)
        · refine lv_iload_n hx hb dX4_pending_84 rfl (lv_at hl 1 rfl) ?_
          refine r_top (y := nI (fct (ccC (tcr tc i) (lkC kp i j)) 4)) (congrArg nI (show (fct (ccC (tcr tc i) (lkC kp i j)) k) = (fct (ccC (tcr tc i) (lkC kp i j)) 4) from by rw [show k = 4 by omega])) ?_
          have e9 : (gof true true true) = (nI 0) := rfl
          have hP := (congrArg (fun z9 => va_P D vwCl (wM ct g n dc pa va dl ge su mk dp sq tc kp z9) H) e9).mp hP
          have hP : va_P D vwCl (wM ct g n dc pa va dl ge su mk dp sq tc kp (nI 0)) H := hP
          exact W.iret hx hb hr (fun t ht hW => ⟨⟨_, (), rfl, rfl, by show va_P D vwCl _ t.heap; rw [ht]; exact hP⟩, hS.F ht⟩) hS.2.2 dX4_pending_85
        · refine lv_iload_n hx hb dX4_pending_50 rfl (lv_at hl 1 rfl) ?_
          refine lv_aload_n hx hb dX4_pending_51 rfl (lv_at hl 2 rfl) ?_
          refine va_get (D := D) (ci := 4) (v := .ref (g 10)) (C := RX4) (T := TX4) (N := 13) hx hb hts (fun _ h => List.mem_cons_of_mem _ (List.mem_append_right _ h)) hown hK.1 hP 0 rfl rfl 10 (by decide) (hts (.fieldLink RX4 38 "RevisionStoresModel" "touched" "[I") (List.mem_of_getElem? (i := 1) rfl)) (fun _ h9 => h9) rfl dX4_pending_52 ?_
          refine lv_iconst (v := nI 4) hx hb dX4_pending_55 (by decide) ?_
          refine lv_iload_n hx hb dX4_pending_56 rfl (lv_at hl 3 rfl) ?_
          refine r_imulN hx hb dX4_pending_57 ?_
          refine lv_iload hx hb dX4_pending_58 (lv_at hl 0 rfl) ?_
          refine r_iaddN hx hb dX4_pending_60 ?_
          refine r_iald (j := (4 * i) + k) (v := tc ((4 * i) + k)) hx hb hK.1 hP 10 0 rfl rfl (by omega) (by first | decide | omega) rfl dX4_pending_61 ?_
          refine lv_aload_n hx hb dX4_pending_62 rfl (lv_at hl 2 rfl) ?_
          refine lv_iload_n hx hb dX4_pending_63 rfl (lv_at hl 3 rfl) ?_
          refine lv_iload_n hx hb dX4_pending_64 rfl (lv_at hl 4 rfl) ?_
          refine r_cV (As := [.int (nI i), .int (nI j)]) (rest := [.int (tc ((4 * i) + k)), .int (nI (fct (ccC (tcr tc i) (lkC kp i j)) k))]) ⟨hx, hb, hml, hown, hts⟩ (cX4_begins_ok l D ct g n dc pa va dl ge su mk dp sq tc kp (gof true true true) i j (by first | assumption | omega) (by first | assumption | omega)) (cwV 2 hts gX4_pending_X4_begins rfl rfl rfl (by decide +kernel) ⟨Nat.le_of_ble_eq_true rfl, Nat.le_of_ble_eq_true rfl⟩) hK (hP.sub (ws' := wM ct g n dc pa va dl ge su mk dp sq tc kp (gof true true true)) [0, 1, 2, 3, 4, 5, 6, 7, 8, 9, 10, 11] rfl) 0 4 rfl rfl rfl hl.1 rfl (Nat.le_of_ble_eq_true rfl) dX4_pending_65 ⟨Nat.le_of_ble_eq_true rfl, Nat.le_of_ble_eq_true rfl⟩ ?_
          refine lv_icmp_le (x := tc ((4 * i) + k)) (y := lkC kp i j) (tgt := 75) hx hb dX4_pending_68 (by decide) (fun c68 => ?_) (fun c68 => ?_)
          · refine lv_iconst (v := nI 0) hx hb dX4_pending_75 (by decide) ?_
            refine r_iaddN hx hb dX4_pending_76 ?_
            refine lv_istore_n (lv' := [(3, .int (nI ((fct (ccC (tcr tc i) (lkC kp i j)) k) + 0))), (4, .int (nI k)), (0, .ref (g 0)), (1, .int (nI i)), (2, .int (nI j))]) hx hb dX4_pending_77 rfl hl (by decide) rfl (fun ls hl => ?_)
            refine lv_iinc (v := nI (k + 1)) (lv' := [(4, .int (nI (k + 1))), (3, .int (nI ((fct (ccC (tcr tc i) (lkC kp i j)) k) + 0))), (0, .ref (g 0)), (1, .int (nI i)), (2, .int (nI j))]) hx hb dX4_pending_78 hl (k := 1) rfl (nI_1 _) (by decide) rfl (fun ls hl => ?_)
            refine lv_goto (tgt := 44) hx hb dX4_pending_81 (by decide) ?_
            have hl := lv_re (f := fun z9 => [(4, .int (nI (k + 1))), (3, .int z9), (0, .ref (g 0)), (1, .int (nI i)), (2, .int (nI j))]) hl (show nI ((fct (ccC (tcr tc i) (lkC kp i j)) k) + 0) = nI (fct (ccC (tcr tc i) (lkC kp i j)) (k + 1)) from congrArg nI (show ((fct (ccC (tcr tc i) (lkC kp i j)) k) + 0) = (fct (ccC (tcr tc i) (lkC kp i j)) (k + 1)) from by simp [fct, ccC, tcr, c5, c12, c22, c34, c47, c68]))
            exact ih44 (k + 1) (by first | assumption | omega) (by omega) H locs ls hP hD hS (lv_sub hl [0, 1, 2, 3, 4] rfl)
          · refine lv_iconst (v := nI 1) hx hb dX4_pending_71 (by decide) ?_
            refine lv_goto (tgt := 76) hx hb dX4_pending_72 (by decide) ?_
            refine r_iaddN hx hb dX4_pending_76 ?_
            refine lv_istore_n (lv' := [(3, .int (nI ((fct (ccC (tcr tc i) (lkC kp i j)) k) + 1))), (4, .int (nI k)), (0, .ref (g 0)), (1, .int (nI i)), (2, .int (nI j))]) hx hb dX4_pending_77 rfl hl (by decide) rfl (fun ls hl => ?_)
            refine lv_iinc (v := nI (k + 1)) (lv' := [(4, .int (nI (k + 1))), (3, .int (nI ((fct (ccC (tcr tc i) (lkC kp i j)) k) + 1))), (0, .ref (g 0)), (1, .int (nI i)), (2, .int (nI j))]) hx hb dX4_pending_78 hl (k := 1) rfl (nI_1 _) (by decide) rfl (fun ls hl => ?_)
            refine lv_goto (tgt := 44) hx hb dX4_pending_81 (by decide) ?_
            have hl := lv_re (f := fun z9 => [(4, .int (nI (k + 1))), (3, .int z9), (0, .ref (g 0)), (1, .int (nI i)), (2, .int (nI j))]) hl (show nI ((fct (ccC (tcr tc i) (lkC kp i j)) k) + 1) = nI (fct (ccC (tcr tc i) (lkC kp i j)) (k + 1)) from congrArg nI (show ((fct (ccC (tcr tc i) (lkC kp i j)) k) + 1) = (fct (ccC (tcr tc i) (lkC kp i j)) (k + 1)) from by simp [fct, ccC, tcr, c5, c12, c22, c34, c47, c68]))
            exact ih44 (k + 1) (by first | assumption | omega) (by omega) H locs ls hP hD hS (lv_sub hl [0, 1, 2, 3, 4] rfl)
    have hl := lv_re (f := fun z9 => [(4, .int (nI 0)), (3, .int z9), (0, .ref (g 0)), (1, .int (nI i)), (2, .int (nI j))]) hl (show nI 0 = nI (fct (ccC (tcr tc i) (lkC kp i j)) 0) from congrArg nI (show 0 = (fct (ccC (tcr tc i) (lkC kp i j)) 0) from rfl))
    exact key44 ((4 - 0) + 1) 0 (by first | assumption | omega) (Nat.lt_succ_self _) H locs ls hP hD hS (lv_sub hl [0, 1, 2, 3, 4] rfl)
set_option maxHeartbeats 8000000 in
set_option maxRecDepth 100000 in
theorem cX4_pending_bad (l : Launch) (D : va_G) (ct : Nat → ClassId) (g : Nat → Nat) (n : Nat) (dc : Nat → Nat) (pa : Nat → Option Nat) (va : Nat → Int32) (dl : Nat → Bool) (ge : Nat → Nat) (su : Nat → Int32) (mk : Nat → Bool) (dp : Nat → Int32) (sq : Nat → Int32) (tc : Nat → Int32) (kp : Nat → Int32) (la : Int32) (p0 : Int32) (p1 : Int32) (hbad : ((inn p0 (nI 0) (nI 2) && inn p1 (nI 0) (nI 2)) && (decide (p0 ≠ p1) && true)) = false) (sz : Nat) : Met l yX4_pending wsX4_pending ({ frames := 2, cells := 0, slots := 0, locals := 42 } : Room) (wrPc D ct [.ref (g 0), .int p0, .int p1] (wM ct g n dc pa va dl ge su mk dp sq tc kp la) sz) (wqI D (nI 0) (wM ct g n dc pa va dl ge su mk dp sq tc kp (gof (inn p0 (nI 0) (nI 2) && inn p1 (nI 0) (nI 2)) (decide (p0 ≠ p1)) true)) (va_A (wM ct g n dc pa va dl ge su mk dp sq tc kp la) sz)) 0 0 (va_A (wM ct g n dc pa va dl ge su mk dp sq tc kp la) sz) := by
  refine Met.ofW (cc := cX4_pending) (maxL := 5) (ret := (some .int)) (by decide) rfl ?_
  intro p e s m args below meth c s₁ B hml hv
  obtain ⟨rfl, hsz, hP, hK, hD0⟩ := hv
  have hx := B.exec
  have hb := B.bytes
  have hr := B.returns
  have hts := atoms_spec (ws := wsX4_pending) B.pre
  have hown : s.vm.findClass RX4 = some m.cls := findClass_of_methodNamed B.named
  have hlocks := B.notSynchronized
  subst hsz
  have hD := hD0.self (sz := s.heap.size)
  generalize hAe : va_A (wM ct g n dc pa va dl ge su mk dp sq tc kp la) s.heap.size = A at hD ⊢
  have hA : ∀ q : Nat, s.heap.size ≤ q → A q := fun q h => by rw [← hAe]; exact Or.inr h
  have hS : va_S A s.heap s.heap [] := va_S.rf
  have hP : va_P D vwCl (wM ct g n dc pa va dl ge su mk dp sq tc kp la) s.heap := hP
  clear hAe hD0
  have hl := lv_entry ([.ref (g 0), .int p0, .int p1]) (n := 5) (Nat.le_of_ble_eq_true rfl)
  rw [lg_entry_eq]
  generalize (lg_sl ([.ref (g 0), .int p0, .int p1]) ++ List.replicate (5 - (lg_sl ([.ref (g 0), .int p0, .int p1])).length) Slot.unset).toArray = ls at hl ⊢
  have hl : lv_has ls 5 [(0, .ref (g 0)), (1, .int p0), (2, .int p1)] := hl
  have hH0 : s.heap.size ≤ s.heap.size := Nat.le_refl _
  have jn20 : ∀ (H : Heap) (locs : List Loc) (ls : Array Slot), va_P D vwCl (wM ct g n dc pa va dl ge su mk dp sq tc kp la) H → va_D A (wM ct g n dc pa va dl ge su mk dp sq tc kp la) → va_S A s.heap H locs → lv_has ls 5 [(0, .ref (g 0)), (1, .int p0), (2, .int p1)] → W p l e ({ frames := 2, cells := 0, slots := 0, locals := 42 } : Room) s m ([.ref (g 0), .int p0, .int p1] : List Value).toArray below meth c H locs 0 0 (MQ below (wqI D (nI 0) (wM ct g n dc pa va dl ge su mk dp sq tc kp (gof (inn p0 (nI 0) (nI 2) && inn p1 (nI 0) (nI 2)) (decide (p0 ≠ p1)) true)) A) ([.ref (g 0), .int p0, .int p1] : List Value).toArray s 0 0 A) (F0 m 20 ls [.int (bI (inn p0 (nI 0) (nI 2) && inn p1 (nI 0) (nI 2))), .ref (g 0)]) := by
    intro H locs ls hP hD hS hl
    have jn30 : ∀ (H : Heap) (locs : List Loc) (ls : Array Slot), va_P D vwCl (wM ct g n dc pa va dl ge su mk dp sq tc kp la) H → va_D A (wM ct g n dc pa va dl ge su mk dp sq tc kp la) → va_S A s.heap H locs → lv_has ls 5 [(0, .ref (g 0)), (1, .int p0), (2, .int p1)] → W p l e ({ frames := 2, cells := 0, slots := 0, locals := 42 } : Room) s m ([.ref (g 0), .int p0, .int p1] : List Value).toArray below meth c H locs 0 0 (MQ below (wqI D (nI 0) (wM ct g n dc pa va dl ge su mk dp sq tc kp (gof (inn p0 (nI 0) (nI 2) && inn p1 (nI 0) (nI 2)) (decide (p0 ≠ p1)) true)) A) ([.ref (g 0), .int p0, .int p1] : List Value).toArray s 0 0 A) (F0 m 30 ls [.int (bI (decide (p0 ≠ p1))), .int (bI (inn p0 (nI 0) (nI 2) && inn p1 (nI 0) (nI 2))), .ref (g 0)]) := by
      intro H locs ls hP hD hS hl
      refine lv_iconst (v := nI 1) hx hb dX4_pending_30 (by decide) ?_
      refine r_wVi (As := [.int (bI (inn p0 (nI 0) (nI 2) && inn p1 (nI 0) (nI 2))), .int (bI (decide (p0 ≠ p1))), .int (bI true)]) (rest := []) ⟨hx, hb, hml, hown, hts⟩ (cX4_goes_ok l D ct g n dc pa va dl ge su mk dp sq tc kp la (inn p0 (nI 0) (nI 2) && inn p1 (nI 0) (nI 2)) (decide (p0 ≠ p1)) true  H.size) (cwV 3 hts gX4_pending_X4_goes rfl rfl rfl (by decide +kernel) ⟨Nat.le_of_ble_eq_true rfl, Nat.le_of_ble_eq_true rfl⟩) hK hP hD hS hA [0, 1, 2, 3, 4, 5, 6, 7, 8, 9, 10, 11] rfl rfl rfl 0 4 rfl rfl rfl hl.1 rfl (Nat.le_of_ble_eq_true rfl) dX4_pending_31 ⟨Nat.le_of_ble_eq_true rfl, Nat.le_of_ble_eq_true rfl⟩ (fun H locs hP hD hS => ?_)
      have hP : va_P D vwCl (wM ct g n dc pa va dl ge su mk dp sq tc kp (gof (inn p0 (nI 0) (nI 2) && inn p1 (nI 0) (nI 2)) (decide (p0 ≠ p1)) true)) H := hP
      have hD : va_D A (wM ct g n dc pa va dl ge su mk dp sq tc kp (gof (inn p0 (nI 0) (nI 2) && inn p1 (nI 0) (nI 2)) (decide (p0 ≠ p1)) true)) := hD
      refine r_top (y := bI false) (congrArg bI (show ((inn p0 (nI 0) (nI 2) && inn p1 (nI 0) (nI 2)) && ((decide (p0 ≠ p1)) && true)) = false from hbad)) ?_
      refine r_if_neB (x := false) (tgt := 39) hx hb dX4_pending_34 (by decide) (fun c34 => by cases c34) (fun c34 => ?_)
      refine lv_iconst (v := nI 0) hx hb dX4_pending_37 (by decide) ?_
      exact W.iret hx hb hr (fun t ht hW => ⟨⟨_, (), rfl, rfl, by show va_P D vwCl _ t.heap; rw [ht]; exact hP⟩, hS.F ht⟩) hS.2.2 dX4_pending_38
    refine lv_iload_n hx hb dX4_pending_20 rfl (lv_at hl 1 rfl) ?_
    refine lv_iload_n hx hb dX4_pending_21 rfl (lv_at hl 2 rfl) ?_
    refine lv_icmp_eq (x := p0) (y := p1) (tgt := 29) hx hb dX4_pending_22 (by decide) (fun c22 => ?_) (fun c22 => ?_)
    · refine lv_iconst (v := nI 0) hx hb dX4_pending_29 (by decide) ?_
      refine r_top (y := bI (decide (p0 ≠ p1))) (congrArg bI (show false = (decide (p0 ≠ p1)) from by simp [c22])) ?_
      exact jn30 H locs ls hP hD hS (lv_sub hl [0, 1, 2] rfl)
    · refine lv_iconst (v := nI 1) hx hb dX4_pending_25 (by decide) ?_
      refine lv_goto (tgt := 30) hx hb dX4_pending_26 (by decide) ?_
      refine r_top (y := bI (decide (p0 ≠ p1))) (congrArg bI (show true = (decide (p0 ≠ p1)) from by simp [c22])) ?_
      exact jn30 H locs ls hP hD hS (lv_sub hl [0, 1, 2] rfl)
  refine lv_aload_n hx hb dX4_pending_0 rfl (lv_at hl 0 rfl) ?_
  refine lv_iload_n hx hb dX4_pending_1 rfl (lv_at hl 1 rfl) ?_
  refine r_cS (As := [.int p0]) (rest := [.ref (g 0)]) ⟨hx, hb, hml, hown, hts⟩ (cX4_isStore_ok l D ct p0 ) (va_cwS 1 hts gX4_pending_X4_isStore rfl rfl rfl (by decide +kernel) ⟨Nat.le_of_ble_eq_true rfl, Nat.le_of_ble_eq_true rfl⟩) hK va_Pnil rfl hl.1 rfl (Nat.le_of_ble_eq_true rfl) dX4_pending_2 ⟨Nat.le_of_ble_eq_true rfl, Nat.le_of_ble_eq_true rfl⟩ ?_
  refine r_if_eqB (x := inn p0 (nI 0) (nI 2)) (tgt := 19) hx hb dX4_pending_5 (by decide) (fun c5 => ?_) (fun c5 => ?_)
  · refine lv_iconst (v := nI 0) hx hb dX4_pending_19 (by decide) ?_
    refine r_top (y := bI (inn p0 (nI 0) (nI 2) && inn p1 (nI 0) (nI 2))) (congrArg bI (show false = (inn p0 (nI 0) (nI 2) && inn p1 (nI 0) (nI 2)) from by simp [c5])) ?_
    exact jn20 _ _ ls hP hD hS (lv_sub hl [0, 1, 2] rfl)
  · refine lv_iload_n hx hb dX4_pending_8 rfl (lv_at hl 2 rfl) ?_
    refine r_cS (As := [.int p1]) (rest := [.ref (g 0)]) ⟨hx, hb, hml, hown, hts⟩ (cX4_isStore_ok l D ct p1 ) (va_cwS 1 hts gX4_pending_X4_isStore rfl rfl rfl (by decide +kernel) ⟨Nat.le_of_ble_eq_true rfl, Nat.le_of_ble_eq_true rfl⟩) hK va_Pnil rfl hl.1 rfl (Nat.le_of_ble_eq_true rfl) dX4_pending_9 ⟨Nat.le_of_ble_eq_true rfl, Nat.le_of_ble_eq_true rfl⟩ ?_
    refine r_if_eqB (x := inn p1 (nI 0) (nI 2)) (tgt := 19) hx hb dX4_pending_12 (by decide) (fun c12 => ?_) (fun c12 => ?_)
    · refine lv_iconst (v := nI 0) hx hb dX4_pending_19 (by decide) ?_
      refine r_top (y := bI (inn p0 (nI 0) (nI 2) && inn p1 (nI 0) (nI 2))) (congrArg bI (show false = (inn p0 (nI 0) (nI 2) && inn p1 (nI 0) (nI 2)) from by simp [c5, c12])) ?_
      exact jn20 _ _ ls hP hD hS (lv_sub hl [0, 1, 2] rfl)
    · refine lv_iconst (v := nI 1) hx hb dX4_pending_15 (by decide) ?_
      refine lv_goto (tgt := 20) hx hb dX4_pending_16 (by decide) ?_
      refine r_top (y := bI (inn p0 (nI 0) (nI 2) && inn p1 (nI 0) (nI 2))) (congrArg bI (show true = (inn p0 (nI 0) (nI 2) && inn p1 (nI 0) (nI 2)) from by simp [c5, c12])) ?_
      exact jn20 _ _ ls hP hD hS (lv_sub hl [0, 1, 2] rfl)
set_option maxHeartbeats 8000000 in
set_option maxRecDepth 100000 in
theorem cX4_checkpoint_bad (l : Launch) (D : va_G) (ct : Nat → ClassId) (g : Nat → Nat) (n : Nat) (dc : Nat → Nat) (pa : Nat → Option Nat) (va : Nat → Int32) (dl : Nat → Bool) (ge : Nat → Nat) (su : Nat → Int32) (mk : Nat → Bool) (dp : Nat → Int32) (sq : Nat → Int32) (tc : Nat → Int32) (kp : Nat → Int32) (la : Int32) (p0 : Int32) (p1 : Int32) (hbad : ((inn p0 (nI 0) (nI 2) && inn p1 (nI 0) (nI 2)) && (decide (p0 ≠ p1) && true)) = false) (sz : Nat) : Met l yX4_checkpoint wsX4_checkpoint ({ frames := 2, cells := 0, slots := 0, locals := 42 } : Room) (wrPc D ct [.ref (g 0), .int p0, .int p1] (wM ct g n dc pa va dl ge su mk dp sq tc kp la) sz) (wqI D (nI 0) (wM ct g n dc pa va dl ge su mk dp sq tc kp (gof (inn p0 (nI 0) (nI 2) && inn p1 (nI 0) (nI 2)) (decide (p0 ≠ p1)) true)) (va_A (wM ct g n dc pa va dl ge su mk dp sq tc kp la) sz)) 0 0 (va_A (wM ct g n dc pa va dl ge su mk dp sq tc kp la) sz) := by
  refine Met.ofW (cc := cX4_checkpoint) (maxL := 3) (ret := (some .int)) (by decide) rfl ?_
  intro p e s m args below meth c s₁ B hml hv
  obtain ⟨rfl, hsz, hP, hK, hD0⟩ := hv
  have hx := B.exec
  have hb := B.bytes
  have hr := B.returns
  have hts := atoms_spec (ws := wsX4_checkpoint) B.pre
  have hown : s.vm.findClass RX4 = some m.cls := findClass_of_methodNamed B.named
  have hlocks := B.notSynchronized
  subst hsz
  have hD := hD0.self (sz := s.heap.size)
  generalize hAe : va_A (wM ct g n dc pa va dl ge su mk dp sq tc kp la) s.heap.size = A at hD ⊢
  have hA : ∀ q : Nat, s.heap.size ≤ q → A q := fun q h => by rw [← hAe]; exact Or.inr h
  have hS : va_S A s.heap s.heap [] := va_S.rf
  have hP : va_P D vwCl (wM ct g n dc pa va dl ge su mk dp sq tc kp la) s.heap := hP
  clear hAe hD0
  have hl := lv_entry ([.ref (g 0), .int p0, .int p1]) (n := 3) (Nat.le_of_ble_eq_true rfl)
  rw [lg_entry_eq]
  generalize (lg_sl ([.ref (g 0), .int p0, .int p1]) ++ List.replicate (3 - (lg_sl ([.ref (g 0), .int p0, .int p1])).length) Slot.unset).toArray = ls at hl ⊢
  have hl : lv_has ls 3 [(0, .ref (g 0)), (1, .int p0), (2, .int p1)] := hl
  have hH0 : s.heap.size ≤ s.heap.size := Nat.le_refl _
  have jn20 : ∀ (H : Heap) (locs : List Loc) (ls : Array Slot), va_P D vwCl (wM ct g n dc pa va dl ge su mk dp sq tc kp la) H → va_D A (wM ct g n dc pa va dl ge su mk dp sq tc kp la) → va_S A s.heap H locs → lv_has ls 3 [(0, .ref (g 0)), (1, .int p0), (2, .int p1)] → W p l e ({ frames := 2, cells := 0, slots := 0, locals := 42 } : Room) s m ([.ref (g 0), .int p0, .int p1] : List Value).toArray below meth c H locs 0 0 (MQ below (wqI D (nI 0) (wM ct g n dc pa va dl ge su mk dp sq tc kp (gof (inn p0 (nI 0) (nI 2) && inn p1 (nI 0) (nI 2)) (decide (p0 ≠ p1)) true)) A) ([.ref (g 0), .int p0, .int p1] : List Value).toArray s 0 0 A) (F0 m 20 ls [.int (bI (inn p0 (nI 0) (nI 2) && inn p1 (nI 0) (nI 2))), .ref (g 0)]) := by
    intro H locs ls hP hD hS hl
    have jn30 : ∀ (H : Heap) (locs : List Loc) (ls : Array Slot), va_P D vwCl (wM ct g n dc pa va dl ge su mk dp sq tc kp la) H → va_D A (wM ct g n dc pa va dl ge su mk dp sq tc kp la) → va_S A s.heap H locs → lv_has ls 3 [(0, .ref (g 0)), (1, .int p0), (2, .int p1)] → W p l e ({ frames := 2, cells := 0, slots := 0, locals := 42 } : Room) s m ([.ref (g 0), .int p0, .int p1] : List Value).toArray below meth c H locs 0 0 (MQ below (wqI D (nI 0) (wM ct g n dc pa va dl ge su mk dp sq tc kp (gof (inn p0 (nI 0) (nI 2) && inn p1 (nI 0) (nI 2)) (decide (p0 ≠ p1)) true)) A) ([.ref (g 0), .int p0, .int p1] : List Value).toArray s 0 0 A) (F0 m 30 ls [.int (bI (decide (p0 ≠ p1))), .int (bI (inn p0 (nI 0) (nI 2) && inn p1 (nI 0) (nI 2))), .ref (g 0)]) := by
      intro H locs ls hP hD hS hl
      refine lv_iconst (v := nI 1) hx hb dX4_checkpoint_30 (by decide) ?_
      refine r_wVi (As := [.int (bI (inn p0 (nI 0) (nI 2) && inn p1 (nI 0) (nI 2))), .int (bI (decide (p0 ≠ p1))), .int (bI true)]) (rest := []) ⟨hx, hb, hml, hown, hts⟩ (cX4_goes_ok l D ct g n dc pa va dl ge su mk dp sq tc kp la (inn p0 (nI 0) (nI 2) && inn p1 (nI 0) (nI 2)) (decide (p0 ≠ p1)) true  H.size) (cwV 3 hts gX4_checkpoint_X4_goes rfl rfl rfl (by decide +kernel) ⟨Nat.le_of_ble_eq_true rfl, Nat.le_of_ble_eq_true rfl⟩) hK hP hD hS hA [0, 1, 2, 3, 4, 5, 6, 7, 8, 9, 10, 11] rfl rfl rfl 0 4 rfl rfl rfl hl.1 rfl (Nat.le_of_ble_eq_true rfl) dX4_checkpoint_31 ⟨Nat.le_of_ble_eq_true rfl, Nat.le_of_ble_eq_true rfl⟩ (fun H locs hP hD hS => ?_)
      have hP : va_P D vwCl (wM ct g n dc pa va dl ge su mk dp sq tc kp (gof (inn p0 (nI 0) (nI 2) && inn p1 (nI 0) (nI 2)) (decide (p0 ≠ p1)) true)) H := hP
      have hD : va_D A (wM ct g n dc pa va dl ge su mk dp sq tc kp (gof (inn p0 (nI 0) (nI 2) && inn p1 (nI 0) (nI 2)) (decide (p0 ≠ p1)) true)) := hD
      refine r_top (y := bI false) (congrArg bI (show ((inn p0 (nI 0) (nI 2) && inn p1 (nI 0) (nI 2)) && ((decide (p0 ≠ p1)) && true)) = false from hbad)) ?_
      refine r_if_eqB (x := false) (tgt := 46) hx hb dX4_checkpoint_34 (by decide) (fun c34 => ?_) (fun c34 => by cases c34)
      refine lv_iconst (v := nI 0) hx hb dX4_checkpoint_46 (by decide) ?_
      exact W.iret hx hb hr (fun t ht hW => ⟨⟨_, (), rfl, rfl, by show va_P D vwCl _ t.heap; rw [ht]; exact hP⟩, hS.F ht⟩) hS.2.2 dX4_checkpoint_47
    refine lv_iload_n hx hb dX4_checkpoint_20 rfl (lv_at hl 1 rfl) ?_
    refine lv_iload_n hx hb dX4_checkpoint_21 rfl (lv_at hl 2 rfl) ?_
    refine lv_icmp_eq (x := p0) (y := p1) (tgt := 29) hx hb dX4_checkpoint_22 (by decide) (fun c22 => ?_) (fun c22 => ?_)
    · refine lv_iconst (v := nI 0) hx hb dX4_checkpoint_29 (by decide) ?_
      refine r_top (y := bI (decide (p0 ≠ p1))) (congrArg bI (show false = (decide (p0 ≠ p1)) from by simp [c22])) ?_
      exact jn30 H locs ls hP hD hS (lv_sub hl [0, 1, 2] rfl)
    · refine lv_iconst (v := nI 1) hx hb dX4_checkpoint_25 (by decide) ?_
      refine lv_goto (tgt := 30) hx hb dX4_checkpoint_26 (by decide) ?_
      refine r_top (y := bI (decide (p0 ≠ p1))) (congrArg bI (show true = (decide (p0 ≠ p1)) from by simp [c22])) ?_
      exact jn30 H locs ls hP hD hS (lv_sub hl [0, 1, 2] rfl)
  refine lv_aload_n hx hb dX4_checkpoint_0 rfl (lv_at hl 0 rfl) ?_
  refine lv_iload_n hx hb dX4_checkpoint_1 rfl (lv_at hl 1 rfl) ?_
  refine r_cS (As := [.int p0]) (rest := [.ref (g 0)]) ⟨hx, hb, hml, hown, hts⟩ (cX4_isStore_ok l D ct p0 ) (va_cwS 1 hts gX4_checkpoint_X4_isStore rfl rfl rfl (by decide +kernel) ⟨Nat.le_of_ble_eq_true rfl, Nat.le_of_ble_eq_true rfl⟩) hK va_Pnil rfl hl.1 rfl (Nat.le_of_ble_eq_true rfl) dX4_checkpoint_2 ⟨Nat.le_of_ble_eq_true rfl, Nat.le_of_ble_eq_true rfl⟩ ?_
  refine r_if_eqB (x := inn p0 (nI 0) (nI 2)) (tgt := 19) hx hb dX4_checkpoint_5 (by decide) (fun c5 => ?_) (fun c5 => ?_)
  · refine lv_iconst (v := nI 0) hx hb dX4_checkpoint_19 (by decide) ?_
    refine r_top (y := bI (inn p0 (nI 0) (nI 2) && inn p1 (nI 0) (nI 2))) (congrArg bI (show false = (inn p0 (nI 0) (nI 2) && inn p1 (nI 0) (nI 2)) from by simp [c5])) ?_
    exact jn20 _ _ ls hP hD hS (lv_sub hl [0, 1, 2] rfl)
  · refine lv_iload_n hx hb dX4_checkpoint_8 rfl (lv_at hl 2 rfl) ?_
    refine r_cS (As := [.int p1]) (rest := [.ref (g 0)]) ⟨hx, hb, hml, hown, hts⟩ (cX4_isStore_ok l D ct p1 ) (va_cwS 1 hts gX4_checkpoint_X4_isStore rfl rfl rfl (by decide +kernel) ⟨Nat.le_of_ble_eq_true rfl, Nat.le_of_ble_eq_true rfl⟩) hK va_Pnil rfl hl.1 rfl (Nat.le_of_ble_eq_true rfl) dX4_checkpoint_9 ⟨Nat.le_of_ble_eq_true rfl, Nat.le_of_ble_eq_true rfl⟩ ?_
    refine r_if_eqB (x := inn p1 (nI 0) (nI 2)) (tgt := 19) hx hb dX4_checkpoint_12 (by decide) (fun c12 => ?_) (fun c12 => ?_)
    · refine lv_iconst (v := nI 0) hx hb dX4_checkpoint_19 (by decide) ?_
      refine r_top (y := bI (inn p0 (nI 0) (nI 2) && inn p1 (nI 0) (nI 2))) (congrArg bI (show false = (inn p0 (nI 0) (nI 2) && inn p1 (nI 0) (nI 2)) from by simp [c5, c12])) ?_
      exact jn20 _ _ ls hP hD hS (lv_sub hl [0, 1, 2] rfl)
    · refine lv_iconst (v := nI 1) hx hb dX4_checkpoint_15 (by decide) ?_
      refine lv_goto (tgt := 20) hx hb dX4_checkpoint_16 (by decide) ?_
      refine r_top (y := bI (inn p0 (nI 0) (nI 2) && inn p1 (nI 0) (nI 2))) (congrArg bI (show true = (inn p0 (nI 0) (nI 2) && inn p1 (nI 0) (nI 2)) from by simp [c5, c12])) ?_
      exact jn20 _ _ ls hP hD hS (lv_sub hl [0, 1, 2] rfl)
set_option maxHeartbeats 8000000 in
set_option maxRecDepth 100000 in
theorem cX4_checkpoint_ok (l : Launch) (D : va_G) (ct : Nat → ClassId) (g : Nat → Nat) (n : Nat) (dc : Nat → Nat) (pa : Nat → Option Nat) (va : Nat → Int32) (dl : Nat → Bool) (ge : Nat → Nat) (su : Nat → Int32) (mk : Nat → Bool) (dp : Nat → Int32) (sq : Nat → Int32) (tc : Nat → Int32) (kp : Nat → Int32) (la : Int32) (i : Nat) (j : Nat) (hi : i < 3) (hj : j < 3) (hij : i ≠ j) (sz : Nat) : Met l yX4_checkpoint wsX4_checkpoint ({ frames := 2, cells := 0, slots := 0, locals := 42 } : Room) (wrPc D ct [.ref (g 0), .int (nI i), .int (nI j)] (wM ct g n dc pa va dl ge su mk dp sq tc kp la) sz) (wqI D (lkC kp i j) (wM ct g n dc pa va dl ge su mk dp sq tc kp (nI 0)) (va_A (wM ct g n dc pa va dl ge su mk dp sq tc kp la) sz)) 0 0 (va_A (wM ct g n dc pa va dl ge su mk dp sq tc kp la) sz) := by
  refine Met.ofW (cc := cX4_checkpoint) (maxL := 3) (ret := (some .int)) (by decide) rfl ?_
  intro p e s m args below meth c s₁ B hml hv
  obtain ⟨rfl, hsz, hP, hK, hD0⟩ := hv
  have hx := B.exec
  have hb := B.bytes
  have hr := B.returns
  have hts := atoms_spec (ws := wsX4_checkpoint) B.pre
  have hown : s.vm.findClass RX4 = some m.cls := findClass_of_methodNamed B.named
  have hlocks := B.notSynchronized
  subst hsz
  have hD := hD0.self (sz := s.heap.size)
  generalize hAe : va_A (wM ct g n dc pa va dl ge su mk dp sq tc kp la) s.heap.size = A at hD ⊢
  have hA : ∀ q : Nat, s.heap.size ≤ q → A q := fun q h => by rw [← hAe]; exact Or.inr h
  have hS : va_S A s.heap s.heap [] := va_S.rf
  have hP : va_P D vwCl (wM ct g n dc pa va dl ge su mk dp sq tc kp la) s.heap := hP
  clear hAe hD0
  have hl := lv_entry ([.ref (g 0), .int (nI i), .int (nI j)]) (n := 3) (Nat.le_of_ble_eq_true rfl)
  rw [lg_entry_eq]
  generalize (lg_sl ([.ref (g 0), .int (nI i), .int (nI j)]) ++ List.replicate (3 - (lg_sl ([.ref (g 0), .int (nI i), .int (nI j)])).length) Slot.unset).toArray = ls at hl ⊢
  have hl : lv_has ls 3 [(0, .ref (g 0)), (1, .int (nI i)), (2, .int (nI j))] := hl
  have hH0 : s.heap.size ≤ s.heap.size := Nat.le_refl _
  refine lv_aload_n hx hb dX4_checkpoint_0 rfl (lv_at hl 0 rfl) ?_
  refine lv_iload_n hx hb dX4_checkpoint_1 rfl (lv_at hl 1 rfl) ?_
  refine r_cS (As := [.int (nI i)]) (rest := [.ref (g 0)]) ⟨hx, hb, hml, hown, hts⟩ (cX4_isStore_ok l D ct (nI i) ) (va_cwS 1 hts gX4_checkpoint_X4_isStore rfl rfl rfl (by decide +kernel) ⟨Nat.le_of_ble_eq_true rfl, Nat.le_of_ble_eq_true rfl⟩) hK va_Pnil rfl hl.1 rfl (Nat.le_of_ble_eq_true rfl) dX4_checkpoint_2 ⟨Nat.le_of_ble_eq_true rfl, Nat.le_of_ble_eq_true rfl⟩ ?_
  refine r_top (y := bI true) (congrArg bI (show (inn (nI i) (nI 0) (nI 2)) = true from inn_t (by omega) (by decide))) ?_
  refine r_if_eqB (x := true) (tgt := 19) hx hb dX4_checkpoint_5 (by decide) (fun c5 => by cases c5) (fun c5 => ?_)
  refine lv_iload_n hx hb dX4_checkpoint_8 rfl (lv_at hl 2 rfl) ?_
  refine r_cS (As := [.int (nI j)]) (rest := [.ref (g 0)]) ⟨hx, hb, hml, hown, hts⟩ (cX4_isStore_ok l D ct (nI j) ) (va_cwS 1 hts gX4_checkpoint_X4_isStore rfl rfl rfl (by decide +kernel) ⟨Nat.le_of_ble_eq_true rfl, Nat.le_of_ble_eq_true rfl⟩) hK va_Pnil rfl hl.1 rfl (Nat.le_of_ble_eq_true rfl) dX4_checkpoint_9 ⟨Nat.le_of_ble_eq_true rfl, Nat.le_of_ble_eq_true rfl⟩ ?_
  refine r_top (y := bI true) (congrArg bI (show (inn (nI j) (nI 0) (nI 2)) = true from inn_t (by omega) (by decide))) ?_
  refine r_if_eqB (x := true) (tgt := 19) hx hb dX4_checkpoint_12 (by decide) (fun c12 => by cases c12) (fun c12 => ?_)
  refine lv_iconst (v := nI 1) hx hb dX4_checkpoint_15 (by decide) ?_
  refine lv_goto (tgt := 20) hx hb dX4_checkpoint_16 (by decide) ?_
  refine lv_iload_n hx hb dX4_checkpoint_20 rfl (lv_at hl 1 rfl) ?_
  refine lv_iload_n hx hb dX4_checkpoint_21 rfl (lv_at hl 2 rfl) ?_
  refine r_icmp_eqN hx hb (x := i) (y := j) (by first | omega | decide) (by first | omega | decide) (tgt := 29) dX4_checkpoint_22 (by decide) (fun c22 => ?_) (fun c22 => ?_)
  · exact absurd c22 hij
  · refine lv_iconst (v := nI 1) hx hb dX4_checkpoint_25 (by decide) ?_
    refine lv_goto (tgt := 30) hx hb dX4_checkpoint_26 (by decide) ?_
    refine lv_iconst (v := nI 1) hx hb dX4_checkpoint_30 (by decide) ?_
    refine r_wVi (As := [.int (bI true), .int (bI true), .int (bI true)]) (rest := []) ⟨hx, hb, hml, hown, hts⟩ (cX4_goes_ok l D ct g n dc pa va dl ge su mk dp sq tc kp la true true true  s.heap.size) (cwV 3 hts gX4_checkpoint_X4_goes rfl rfl rfl (by decide +kernel) ⟨Nat.le_of_ble_eq_true rfl, Nat.le_of_ble_eq_true rfl⟩) hK hP hD hS hA [0, 1, 2, 3, 4, 5, 6, 7, 8, 9, 10, 11] rfl rfl rfl 0 4 rfl rfl rfl hl.1 rfl (Nat.le_of_ble_eq_true rfl) dX4_checkpoint_31 ⟨Nat.le_of_ble_eq_true rfl, Nat.le_of_ble_eq_true rfl⟩ (fun H locs hP hD hS => ?_)
    have hP : va_P D vwCl (wM ct g n dc pa va dl ge su mk dp sq tc kp (gof true true true)) H := hP
    have hD : va_D A (wM ct g n dc pa va dl ge su mk dp sq tc kp (gof true true true)) := hD
    refine r_top (y := bI true) (congrArg bI (show (true && (true && true)) = true from rfl)) ?_
    refine r_if_eqB (x := true) (tgt := 46) hx hb dX4_checkpoint_34 (by decide) (fun c34 => by cases c34) (fun c34 => ?_)
    refine lv_aload_n hx hb dX4_checkpoint_37 rfl (lv_at hl 0 rfl) ?_
    refine lv_iload_n hx hb dX4_checkpoint_38 rfl (lv_at hl 1 rfl) ?_
    refine lv_iload_n hx hb dX4_checkpoint_39 rfl (lv_at hl 2 rfl) ?_
    refine r_cV (As := [.int (nI i), .int (nI j)]) (rest := []) ⟨hx, hb, hml, hown, hts⟩ (cX4_begins_ok l D ct g n dc pa va dl ge su mk dp sq tc kp (gof true true true) i j (by first | assumption | omega) (by first | assumption | omega)) (cwV 2 hts gX4_checkpoint_X4_begins rfl rfl rfl (by decide +kernel) ⟨Nat.le_of_ble_eq_true rfl, Nat.le_of_ble_eq_true rfl⟩) hK (hP.sub (ws' := wM ct g n dc pa va dl ge su mk dp sq tc kp (gof true true true)) [0, 1, 2, 3, 4, 5, 6, 7, 8, 9, 10, 11] rfl) 0 4 rfl rfl rfl hl.1 rfl (Nat.le_of_ble_eq_true rfl) dX4_checkpoint_40 ⟨Nat.le_of_ble_eq_true rfl, Nat.le_of_ble_eq_true rfl⟩ ?_
    refine lv_goto (tgt := 47) hx hb dX4_checkpoint_43 (by decide) ?_
    have e9 : (gof true true true) = (nI 0) := rfl
    have hP := (congrArg (fun z9 => va_P D vwCl (wM ct g n dc pa va dl ge su mk dp sq tc kp z9) H) e9).mp hP
    have hP : va_P D vwCl (wM ct g n dc pa va dl ge su mk dp sq tc kp (nI 0)) H := hP
    exact W.iret hx hb hr (fun t ht hW => ⟨⟨_, (), rfl, rfl, by show va_P D vwCl _ t.heap; rw [ht]; exact hP⟩, hS.F ht⟩) hS.2.2 dX4_checkpoint_47
set_option maxHeartbeats 8000000 in
set_option maxRecDepth 100000 in
theorem cX4_replicate_ok (l : Launch) (D : va_G) (ct : Nat → ClassId) (g : Nat → Nat) (n : Nat) (dc : Nat → Nat) (pa : Nat → Option Nat) (va : Nat → Int32) (dl : Nat → Bool) (ge : Nat → Nat) (su : Nat → Int32) (mk : Nat → Bool) (dp : Nat → Int32) (sq : Nat → Int32) (tc : Nat → Int32) (kp : Nat → Int32) (la : Int32) (i : Nat) (j : Nat) (lim : Nat) (hn : n ≤ 150) (hTd : ∀ k, dc k < 4) (hTg : ∀ k, ge k ≤ 150) (hTp : ∀ k j, k < n → pa k = some j → j < k) (hi : i < 3) (hj : j < 3) (hij : i ≠ j) (hl1 : 1 ≤ lim) (hl4 : lim ≤ 4) (sz : Nat) : Met l yX4_replicate wsX4_replicate ({ frames := 6, cells := 0, slots := 0, locals := 144 } : Room) (wrPc D ct [.ref (g 0), .int (nI i), .int (nI j), .int (nI lim)] (wM ct g n dc pa va dl ge su mk dp sq tc kp la) sz) (wqI D (nI ((rpS dc pa ge dp i j n (0, lkC kp i j, mk, sq, tc) lim).1)) (wM ct g n dc pa va dl ge su ((rpS dc pa ge dp i j n (0, lkC kp i j, mk, sq, tc) lim).2.2.1) dp ((rpS dc pa ge dp i j n (0, lkC kp i j, mk, sq, tc) lim).2.2.2.1) ((rpS dc pa ge dp i j n (0, lkC kp i j, mk, sq, tc) lim).2.2.2.2) (va_up (va_up kp (((9 * i) + (3 * i)) + j) (rpa i (rpS dc pa ge dp i j n (0, lkC kp i j, mk, sq, tc) lim))) (((9 * j) + (3 * i)) + j) (rpa i (rpS dc pa ge dp i j n (0, lkC kp i j, mk, sq, tc) lim))) (nI 0)) (va_A (wM ct g n dc pa va dl ge su mk dp sq tc kp la) sz)) 0 0 (va_A (wM ct g n dc pa va dl ge su mk dp sq tc kp la) sz) := by
  refine Met.ofW (cc := cX4_replicate) (maxL := 8) (ret := (some .int)) (by decide) rfl ?_
  intro p e s m args below meth c s₁ B hml hv
  obtain ⟨rfl, hsz, hP, hK, hD0⟩ := hv
  have hx := B.exec
  have hb := B.bytes
  have hr := B.returns
  have hts := atoms_spec (ws := wsX4_replicate) B.pre
  have hown : s.vm.findClass RX4 = some m.cls := findClass_of_methodNamed B.named
  have hlocks := B.notSynchronized
  subst hsz
  have hD := hD0.self (sz := s.heap.size)
  generalize hAe : va_A (wM ct g n dc pa va dl ge su mk dp sq tc kp la) s.heap.size = A at hD ⊢
  have hA : ∀ q : Nat, s.heap.size ≤ q → A q := fun q h => by rw [← hAe]; exact Or.inr h
  have hS : va_S A s.heap s.heap [] := va_S.rf
  have hP : va_P D vwCl (wM ct g n dc pa va dl ge su mk dp sq tc kp la) s.heap := hP
  clear hAe hD0
  have hl := lv_entry ([.ref (g 0), .int (nI i), .int (nI j), .int (nI lim)]) (n := 8) (Nat.le_of_ble_eq_true rfl)
  rw [lg_entry_eq]
  generalize (lg_sl ([.ref (g 0), .int (nI i), .int (nI j), .int (nI lim)]) ++ List.replicate (8 - (lg_sl ([.ref (g 0), .int (nI i), .int (nI j), .int (nI lim)])).length) Slot.unset).toArray = ls at hl ⊢
  have hl : lv_has ls 8 [(0, .ref (g 0)), (1, .int (nI i)), (2, .int (nI j)), (3, .int (nI lim))] := hl
  have hH0 : s.heap.size ≤ s.heap.size := Nat.le_refl _
  refine lv_aload_n hx hb dX4_replicate_0 rfl (lv_at hl 0 rfl) ?_
  refine lv_iload_n hx hb dX4_replicate_1 rfl (lv_at hl 1 rfl) ?_
  refine r_cS (As := [.int (nI i)]) (rest := [.ref (g 0)]) ⟨hx, hb, hml, hown, hts⟩ (cX4_isStore_ok l D ct (nI i) ) (va_cwS 1 hts gX4_replicate_X4_isStore rfl rfl rfl (by decide +kernel) ⟨Nat.le_of_ble_eq_true rfl, Nat.le_of_ble_eq_true rfl⟩) hK va_Pnil rfl hl.1 rfl (Nat.le_of_ble_eq_true rfl) dX4_replicate_2 ⟨Nat.le_of_ble_eq_true rfl, Nat.le_of_ble_eq_true rfl⟩ ?_
  refine r_top (y := bI true) (congrArg bI (show (inn (nI i) (nI 0) (nI 2)) = true from inn_t (by omega) (by decide))) ?_
  refine r_if_eqB (x := true) (tgt := 19) hx hb dX4_replicate_5 (by decide) (fun c5 => by cases c5) (fun c5 => ?_)
  refine lv_iload_n hx hb dX4_replicate_8 rfl (lv_at hl 2 rfl) ?_
  refine r_cS (As := [.int (nI j)]) (rest := [.ref (g 0)]) ⟨hx, hb, hml, hown, hts⟩ (cX4_isStore_ok l D ct (nI j) ) (va_cwS 1 hts gX4_replicate_X4_isStore rfl rfl rfl (by decide +kernel) ⟨Nat.le_of_ble_eq_true rfl, Nat.le_of_ble_eq_true rfl⟩) hK va_Pnil rfl hl.1 rfl (Nat.le_of_ble_eq_true rfl) dX4_replicate_9 ⟨Nat.le_of_ble_eq_true rfl, Nat.le_of_ble_eq_true rfl⟩ ?_
  refine r_top (y := bI true) (congrArg bI (show (inn (nI j) (nI 0) (nI 2)) = true from inn_t (by omega) (by decide))) ?_
  refine r_if_eqB (x := true) (tgt := 19) hx hb dX4_replicate_12 (by decide) (fun c12 => by cases c12) (fun c12 => ?_)
  refine lv_iconst (v := nI 1) hx hb dX4_replicate_15 (by decide) ?_
  refine lv_goto (tgt := 20) hx hb dX4_replicate_16 (by decide) ?_
  refine lv_iload_n hx hb dX4_replicate_20 rfl (lv_at hl 3 rfl) ?_
  refine lv_iconst (v := nI 1) hx hb dX4_replicate_21 (by decide) ?_
  refine lv_iconst (v := nI 4) hx hb dX4_replicate_22 (by decide) ?_
  refine r_cS (As := [.int (nI lim), .int (nI 1), .int (nI 4)]) (rest := [.int (nI 1), .ref (g 0)]) ⟨hx, hb, hml, hown, hts⟩ (cX4_in_ok l D ct (nI lim) (nI 1) (nI 4) ) (va_cwS 3 hts gX4_replicate_X4_in rfl rfl rfl (by decide +kernel) ⟨Nat.le_of_ble_eq_true rfl, Nat.le_of_ble_eq_true rfl⟩) hK va_Pnil rfl hl.1 rfl (Nat.le_of_ble_eq_true rfl) dX4_replicate_23 ⟨Nat.le_of_ble_eq_true rfl, Nat.le_of_ble_eq_true rfl⟩ ?_
  refine r_top (y := bI true) (congrArg bI (show (inn (nI lim) (nI 1) (nI 4)) = true from inn_t1 hl1 hl4 (by decide))) ?_
  refine r_if_eqB (x := true) (tgt := 38) hx hb dX4_replicate_26 (by decide) (fun c26 => by cases c26) (fun c26 => ?_)
  refine lv_iload_n hx hb dX4_replicate_29 rfl (lv_at hl 1 rfl) ?_
  refine lv_iload_n hx hb dX4_replicate_30 rfl (lv_at hl 2 rfl) ?_
  refine r_icmp_eqN hx hb (x := i) (y := j) (by first | omega | decide) (by first | omega | decide) (tgt := 38) dX4_replicate_31 (by decide) (fun c31 => ?_) (fun c31 => ?_)
  · exact absurd c31 hij
  · refine lv_iconst (v := nI 1) hx hb dX4_replicate_34 (by decide) ?_
    refine lv_goto (tgt := 39) hx hb dX4_replicate_35 (by decide) ?_
    refine lv_iconst (v := nI 1) hx hb dX4_replicate_39 (by decide) ?_
    refine r_wVi (As := [.int (bI true), .int (bI true), .int (bI true)]) (rest := []) ⟨hx, hb, hml, hown, hts⟩ (cX4_goes_ok l D ct g n dc pa va dl ge su mk dp sq tc kp la true true true  s.heap.size) (cwV 3 hts gX4_replicate_X4_goes rfl rfl rfl (by decide +kernel) ⟨Nat.le_of_ble_eq_true rfl, Nat.le_of_ble_eq_true rfl⟩) hK hP hD hS hA [0, 1, 2, 3, 4, 5, 6, 7, 8, 9, 10, 11] rfl rfl rfl 0 4 rfl rfl rfl hl.1 rfl (Nat.le_of_ble_eq_true rfl) dX4_replicate_40 ⟨Nat.le_of_ble_eq_true rfl, Nat.le_of_ble_eq_true rfl⟩ (fun H locs hP hD hS => ?_)
    have hP : va_P D vwCl (wM ct g n dc pa va dl ge su mk dp sq tc kp (gof true true true)) H := hP
    have hD : va_D A (wM ct g n dc pa va dl ge su mk dp sq tc kp (gof true true true)) := hD
    refine r_top (y := bI true) (congrArg bI (show (true && (true && true)) = true from rfl)) ?_
    refine r_if_neB (x := true) (tgt := 48) hx hb dX4_replicate_43 (by decide) (fun c43 => ?_) (fun c43 => by cases c43)
    refine lv_iconst (v := nI 0) hx hb dX4_replicate_48 (by decide) ?_
    refine lv_istore (lv' := [(4, .int (nI 0)), (0, .ref (g 0)), (1, .int (nI i)), (2, .int (nI j)), (3, .int (nI lim))]) hx hb dX4_replicate_49 hl (by decide) rfl (fun ls hl => ?_)
    refine lv_aload_n hx hb dX4_replicate_51 rfl (lv_at hl 1 rfl) ?_
    refine lv_iload_n hx hb dX4_replicate_52 rfl (lv_at hl 2 rfl) ?_
    refine lv_iload_n hx hb dX4_replicate_53 rfl (lv_at hl 3 rfl) ?_
    refine r_cV (As := [.int (nI i), .int (nI j)]) (rest := []) ⟨hx, hb, hml, hown, hts⟩ (cX4_begins_ok l D ct g n dc pa va dl ge su mk dp sq tc kp (gof true true true) i j (by first | assumption | omega) (by first | assumption | omega)) (cwV 2 hts gX4_replicate_X4_begins rfl rfl rfl (by decide +kernel) ⟨Nat.le_of_ble_eq_true rfl, Nat.le_of_ble_eq_true rfl⟩) hK (hP.sub (ws' := wM ct g n dc pa va dl ge su mk dp sq tc kp (gof true true true)) [0, 1, 2, 3, 4, 5, 6, 7, 8, 9, 10, 11] rfl) 0 4 rfl rfl rfl hl.1 rfl (Nat.le_of_ble_eq_true rfl) dX4_replicate_54 ⟨Nat.le_of_ble_eq_true rfl, Nat.le_of_ble_eq_true rfl⟩ ?_
    refine lv_istore (lv' := [(5, .int (lkC kp i j)), (4, .int (nI 0)), (0, .ref (g 0)), (1, .int (nI i)), (2, .int (nI j)), (3, .int (nI lim))]) hx hb dX4_replicate_57 hl (by decide) rfl (fun ls hl => ?_)
    refine lv_iconst (v := nI 0) hx hb dX4_replicate_59 (by decide) ?_
    refine lv_istore (lv' := [(6, .int (nI 0)), (5, .int (lkC kp i j)), (4, .int (nI 0)), (0, .ref (g 0)), (1, .int (nI i)), (2, .int (nI j)), (3, .int (nI lim))]) hx hb dX4_replicate_60 hl (by decide) rfl (fun ls hl => ?_)
    have key62 : ∀ (d62 : Nat) (k : Nat) (hk : k ≤ lim), lim - k < d62 → ∀ (H : Heap) (locs : List Loc) (ls : Array Slot), va_P D vwCl (wM ct g n dc pa va dl ge su ((rpS dc pa ge dp i j n (0, lkC kp i j, mk, sq, tc) k).2.2.1) dp ((rpS dc pa ge dp i j n (0, lkC kp i j, mk, sq, tc) k).2.2.2.1) ((rpS dc pa ge dp i j n (0, lkC kp i j, mk, sq, tc) k).2.2.2.2) kp (gof true true true)) H → va_D A (wM ct g n dc pa va dl ge su ((rpS dc pa ge dp i j n (0, lkC kp i j, mk, sq, tc) k).2.2.1) dp ((rpS dc pa ge dp i j n (0, lkC kp i j, mk, sq, tc) k).2.2.2.1) ((rpS dc pa ge dp i j n (0, lkC kp i j, mk, sq, tc) k).2.2.2.2) kp (gof true true true)) → va_S A s.heap H locs → lv_has ls 8 [(6, .int (nI k)), (5, .int ((rpS dc pa ge dp i j n (0, lkC kp i j, mk, sq, tc) k).2.1)), (4, .int (nI ((rpS dc pa ge dp i j n (0, lkC kp i j, mk, sq, tc) k).1))), (0, .ref (g 0)), (1, .int (nI i)), (2, .int (nI j)), (3, .int (nI lim))] → W p l e ({ frames := 6, cells := 0, slots := 0, locals := 144 } : Room) s m ([.ref (g 0), .int (nI i), .int (nI j), .int (nI lim)] : List Value).toArray below meth c H locs 0 0 (MQ below (wqI D (nI ((rpS dc pa ge dp i j n (0, lkC kp i j, mk, sq, tc) lim).1)) (wM ct g n dc pa va dl ge su ((rpS dc pa ge dp i j n (0, lkC kp i j, mk, sq, tc) lim).2.2.1) dp ((rpS dc pa ge dp i j n (0, lkC kp i j, mk, sq, tc) lim).2.2.2.1) ((rpS dc pa ge dp i j n (0, lkC kp i j, mk, sq, tc) lim).2.2.2.2) (va_up (va_up kp (((9 * i) + (3 * i)) + j) (rpa i (rpS dc pa ge dp i j n (0, lkC kp i j, mk, sq, tc) lim))) (((9 * j) + (3 * i)) + j) (rpa i (rpS dc pa ge dp i j n (0, lkC kp i j, mk, sq, tc) lim))) (nI 0)) A) ([.ref (g 0), .int (nI i), .int (nI j), .int (nI lim)] : List Value).toArray s 0 0 A) (F0 m 62 ls []) := by
      intro d62
      induction d62 with
      | zero => intro k hk h9; exact absurd h9 (Nat.not_lt_zero _)
      | succ d62 ih62 =>
        intro k hk hm62 H locs ls hP hD hS hl
        refine lv_iload hx hb dX4_replicate_62 (lv_at hl 0 rfl) ?_
        refine lv_iload_n hx hb dX4_replicate_64 rfl (lv_at hl 6 rfl) ?_
        refine r_icmp_geN hx hb (x := k) (y := lim) (by first | omega | decide) (by first | omega | decide) (tgt := 120) dX4_replicate_65 (by decide) (fun c65 => ?_) (fun c65 => ?_)
        · have e120 : (rpS dc pa ge dp i j n (0, lkC kp i j, mk, sq, tc) k) = (rpS dc pa ge dp i j n (0, lkC kp i j, mk, sq, tc) lim) := by first | exact congrArg (rpS dc pa ge dp i j n (0, lkC kp i j, mk, sq, tc)) (show k = lim by omega) | exact rpS_end c76 hk
          have e9 : ((rpS dc pa ge dp i j n (0, lkC kp i j, mk, sq, tc) k).2.2.1) = ((rpS dc pa ge dp i j n (0, lkC kp i j, mk, sq, tc) lim).2.2.1) := by rw [e120]
          have hP := (congrArg (fun z9 => va_P D vwCl (wM ct g n dc pa va dl ge su z9 dp ((rpS dc pa ge dp i j n (0, lkC kp i j, mk, sq, tc) k).2.2.2.1) ((rpS dc pa ge dp i j n (0, lkC kp i j, mk, sq, tc) k).2.2.2.2) kp (gof true true true)) H) e9).mp hP
          have hD := (congrArg (fun z9 => va_D A (wM ct g n dc pa va dl ge su z9 dp ((rpS dc pa ge dp i j n (0, lkC kp i j, mk, sq, tc) k).2.2.2.1) ((rpS dc pa ge dp i j n (0, lkC kp i j, mk, sq, tc) k).2.2.2.2) kp (gof true true true))) e9).mp hD
          have e9 : ((rpS dc pa ge dp i j n (0, lkC kp i j, mk, sq, tc) k).2.2.2.1) = ((rpS dc pa ge dp i j n (0, lkC kp i j, mk, sq, tc) lim).2.2.2.1) := by rw [e120]
          have hP := (congrArg (fun z9 => va_P D vwCl (wM ct g n dc pa va dl ge su ((rpS dc pa ge dp i j n (0, lkC kp i j, mk, sq, tc) lim).2.2.1) dp z9 ((rpS dc pa ge dp i j n (0, lkC kp i j, mk, sq, tc) k).2.2.2.2) kp (gof true true true)) H) e9).mp hP
          have hD := (congrArg (fun z9 => va_D A (wM ct g n dc pa va dl ge su ((rpS dc pa ge dp i j n (0, lkC kp i j, mk, sq, tc) lim).2.2.1) dp z9 ((rpS dc pa ge dp i j n (0, lkC kp i j, mk, sq, tc) k).2.2.2.2) kp (gof true true true))) e9).mp hD
          have e9 : ((rpS dc pa ge dp i j n (0, lkC kp i j, mk, sq, tc) k).2.2.2.2) = ((rpS dc pa ge dp i j n (0, lkC kp i j, mk, sq, tc) lim).2.2.2.2) := by rw [e120]
          have hP := (congrArg (fun z9 => va_P D vwCl (wM ct g n dc pa va dl ge su ((rpS dc pa ge dp i j n (0, lkC kp i j, mk, sq, tc) lim).2.2.1) dp ((rpS dc pa ge dp i j n (0, lkC kp i j, mk, sq, tc) lim).2.2.2.1) z9 kp (gof true true true)) H) e9).mp hP
          have hD := (congrArg (fun z9 => va_D A (wM ct g n dc pa va dl ge su ((rpS dc pa ge dp i j n (0, lkC kp i j, mk, sq, tc) lim).2.2.1) dp ((rpS dc pa ge dp i j n (0, lkC kp i j, mk, sq, tc) lim).2.2.2.1) z9 kp (gof true true true))) e9).mp hD
          have hP : va_P D vwCl (wM ct g n dc pa va dl ge su ((rpS dc pa ge dp i j n (0, lkC kp i j, mk, sq, tc) lim).2.2.1) dp ((rpS dc pa ge dp i j n (0, lkC kp i j, mk, sq, tc) lim).2.2.2.1) ((rpS dc pa ge dp i j n (0, lkC kp i j, mk, sq, tc) lim).2.2.2.2) kp (gof true true true)) H := hP
          have hD : va_D A (wM ct g n dc pa va dl ge su ((rpS dc pa ge dp i j n (0, lkC kp i j, mk, sq, tc) lim).2.2.1) dp ((rpS dc pa ge dp i j n (0, lkC kp i j, mk, sq, tc) lim).2.2.2.1) ((rpS dc pa ge dp i j n (0, lkC kp i j, mk, sq, tc) lim).2.2.2.2) kp (gof true true true)) := hD
          have hl := lv_re (f := fun z9 => [(6, .int (nI k)), (5, .int ((rpS dc pa ge dp i j n (0, lkC kp i j, mk, sq, tc) k).2.1)), (4, .int z9), (0, .ref (g 0)), (1, .int (nI i)), (2, .int (nI j)), (3, .int (nI lim))]) hl (show nI ((rpS dc pa ge dp i j n (0, lkC kp i j, mk, sq, tc) k).1) = nI ((rpS dc pa ge dp i j n (0, lkC kp i j, mk, sq, tc) lim).1) from congrArg nI (show ((rpS dc pa ge dp i j n (0, lkC kp i j, mk, sq, tc) k).1) = ((rpS dc pa ge dp i j n (0, lkC kp i j, mk, sq, tc) lim).1) from by rw [e120]))
          have hl := lv_re (f := fun z9 => [(6, .int (nI k)), (5, .int z9), (4, .int (nI ((rpS dc pa ge dp i j n (0, lkC kp i j, mk, sq, tc) lim).1))), (0, .ref (g 0)), (1, .int (nI i)), (2, .int (nI j)), (3, .int (nI lim))]) hl (show (rpS dc pa ge dp i j n (0, lkC kp i j, mk, sq, tc) k).2.1 = (rpS dc pa ge dp i j n (0, lkC kp i j, mk, sq, tc) lim).2.1 from by rw [e120])
          refine lv_aload_n hx hb dX4_replicate_120 rfl (lv_at hl 3 rfl) ?_
          refine lv_iload_n hx hb dX4_replicate_121 rfl (lv_at hl 4 rfl) ?_
          refine lv_iload hx hb dX4_replicate_122 (lv_at hl 1 rfl) ?_
          refine r_cV (As := [.int (nI i), .int ((rpS dc pa ge dp i j n (0, lkC kp i j, mk, sq, tc) lim).2.1)]) (rest := []) ⟨hx, hb, hml, hown, hts⟩ (cX4_nextOf_ok l D ct g n dc pa va dl ge su ((rpS dc pa ge dp i j n (0, lkC kp i j, mk, sq, tc) lim).2.2.1) dp ((rpS dc pa ge dp i j n (0, lkC kp i j, mk, sq, tc) lim).2.2.2.1) ((rpS dc pa ge dp i j n (0, lkC kp i j, mk, sq, tc) lim).2.2.2.2) kp (gof true true true) i ((rpS dc pa ge dp i j n (0, lkC kp i j, mk, sq, tc) lim).2.1) (by first | assumption | omega)) (cwV 2 hts gX4_replicate_X4_nextOf rfl rfl rfl (by decide +kernel) ⟨Nat.le_of_ble_eq_true rfl, Nat.le_of_ble_eq_true rfl⟩) hK (hP.sub (ws' := wM ct g n dc pa va dl ge su ((rpS dc pa ge dp i j n (0, lkC kp i j, mk, sq, tc) lim).2.2.1) dp ((rpS dc pa ge dp i j n (0, lkC kp i j, mk, sq, tc) lim).2.2.2.1) ((rpS dc pa ge dp i j n (0, lkC kp i j, mk, sq, tc) lim).2.2.2.2) kp (gof true true true)) [0, 1, 2, 3, 4, 5, 6, 7, 8, 9, 10, 11] rfl) 0 4 rfl rfl rfl hl.1 rfl (Nat.le_of_ble_eq_true rfl) dX4_replicate_124 ⟨Nat.le_of_ble_eq_true rfl, Nat.le_of_ble_eq_true rfl⟩ ?_
          refine lv_iconst (v := -1) hx hb dX4_replicate_127 (by decide) ?_
          refine r_icmp_neP hx hb (x := nxS (tcr ((rpS dc pa ge dp i j n (0, lkC kp i j, mk, sq, tc) lim).2.2.2.2) i) ((rpS dc pa ge dp i j n (0, lkC kp i j, mk, sq, tc) lim).2.1) 4) (by intro j9 h9; have := nxS_lt _ _ _ _ h9; omega) (tgt := 140) dX4_replicate_128 (by decide) (fun j128 c128 => ?_) (fun c128 => ?_)
          · refine lv_iload hx hb dX4_replicate_140 (lv_at hl 1 rfl) ?_
            refine r_top (y := rpa i (rpS dc pa ge dp i j n (0, lkC kp i j, mk, sq, tc) lim)) (by simp [rpa, c5, c12, c26, c31, c43, c65, c128]) ?_
            refine lv_istore (lv' := [(5, .int (rpa i (rpS dc pa ge dp i j n (0, lkC kp i j, mk, sq, tc) lim))), (6, .int (nI k)), (4, .int (nI ((rpS dc pa ge dp i j n (0, lkC kp i j, mk, sq, tc) lim).1))), (0, .ref (g 0)), (1, .int (nI i)), (2, .int (nI j)), (3, .int (nI lim))]) hx hb dX4_replicate_142 hl (by decide) rfl (fun ls hl => ?_)
            refine lv_aload_n hx hb dX4_replicate_144 rfl (lv_at hl 3 rfl) ?_
            refine va_get (D := D) (ci := 4) (v := .ref (g 11)) (C := RX4) (T := TX4) (N := 13) hx hb hts (fun _ h => List.mem_cons_of_mem _ (List.mem_append_right _ h)) hown hK.1 hP 0 rfl rfl 11 (by decide) (hts (.fieldLink RX4 41 "RevisionStoresModel" "kept" "[I") (List.mem_of_getElem? (i := 3) rfl)) (fun _ h9 => h9) rfl dX4_replicate_145 ?_
            refine lv_bipush (v := nI 9) hx hb dX4_replicate_148 (by decide) ?_
            refine lv_iload_n hx hb dX4_replicate_150 rfl (lv_at hl 4 rfl) ?_
            refine r_imulN hx hb dX4_replicate_151 ?_
            refine lv_iconst (v := nI 3) hx hb dX4_replicate_152 (by decide) ?_
            refine lv_iload_n hx hb dX4_replicate_153 rfl (lv_at hl 4 rfl) ?_
            refine r_imulN hx hb dX4_replicate_154 ?_
            refine r_iaddN hx hb dX4_replicate_155 ?_
            refine lv_iload_n hx hb dX4_replicate_156 rfl (lv_at hl 5 rfl) ?_
            refine r_iaddN hx hb dX4_replicate_157 ?_
            refine lv_iload hx hb dX4_replicate_158 (lv_at hl 0 rfl) ?_
            refine r_iast (j := ((9 * i) + (3 * i)) + j) (x := (rpa i (rpS dc pa ge dp i j n (0, lkC kp i j, mk, sq, tc) lim))) (f' := va_up kp (((9 * i) + (3 * i)) + j) (rpa i (rpS dc pa ge dp i j n (0, lkC kp i j, mk, sq, tc) lim))) hx hb hK.1 hP hD hS 11 0 rfl rfl (by omega) (by first | decide | omega) (up_i _ _ _) dX4_replicate_160 (fun H locs hP hD hS => ?_)
            have hP : va_P D vwCl (wM ct g n dc pa va dl ge su ((rpS dc pa ge dp i j n (0, lkC kp i j, mk, sq, tc) lim).2.2.1) dp ((rpS dc pa ge dp i j n (0, lkC kp i j, mk, sq, tc) lim).2.2.2.1) ((rpS dc pa ge dp i j n (0, lkC kp i j, mk, sq, tc) lim).2.2.2.2) (va_up kp (((9 * i) + (3 * i)) + j) (rpa i (rpS dc pa ge dp i j n (0, lkC kp i j, mk, sq, tc) lim))) (gof true true true)) H := hP
            have hD : va_D A (wM ct g n dc pa va dl ge su ((rpS dc pa ge dp i j n (0, lkC kp i j, mk, sq, tc) lim).2.2.1) dp ((rpS dc pa ge dp i j n (0, lkC kp i j, mk, sq, tc) lim).2.2.2.1) ((rpS dc pa ge dp i j n (0, lkC kp i j, mk, sq, tc) lim).2.2.2.2) (va_up kp (((9 * i) + (3 * i)) + j) (rpa i (rpS dc pa ge dp i j n (0, lkC kp i j, mk, sq, tc) lim))) (gof true true true)) := hD
            refine lv_aload_n hx hb dX4_replicate_161 rfl (lv_at hl 3 rfl) ?_
            refine va_get (D := D) (ci := 4) (v := .ref (g 11)) (C := RX4) (T := TX4) (N := 13) hx hb hts (fun _ h => List.mem_cons_of_mem _ (List.mem_append_right _ h)) hown hK.1 hP 0 rfl rfl 11 (by decide) (hts (.fieldLink RX4 41 "RevisionStoresModel" "kept" "[I") (List.mem_of_getElem? (i := 3) rfl)) (fun _ h9 => h9) rfl dX4_replicate_162 ?_
            refine lv_bipush (v := nI 9) hx hb dX4_replicate_165 (by decide) ?_
            refine lv_iload_n hx hb dX4_replicate_167 rfl (lv_at hl 5 rfl) ?_
            refine r_imulN hx hb dX4_replicate_168 ?_
            refine lv_iconst (v := nI 3) hx hb dX4_replicate_169 (by decide) ?_
            refine lv_iload_n hx hb dX4_replicate_170 rfl (lv_at hl 4 rfl) ?_
            refine r_imulN hx hb dX4_replicate_171 ?_
            refine r_iaddN hx hb dX4_replicate_172 ?_
            refine lv_iload_n hx hb dX4_replicate_173 rfl (lv_at hl 5 rfl) ?_
            refine r_iaddN hx hb dX4_replicate_174 ?_
            refine lv_iload hx hb dX4_replicate_175 (lv_at hl 0 rfl) ?_
            refine r_iast (j := ((9 * j) + (3 * i)) + j) (x := (rpa i (rpS dc pa ge dp i j n (0, lkC kp i j, mk, sq, tc) lim))) (f' := va_up (va_up kp (((9 * i) + (3 * i)) + j) (rpa i (rpS dc pa ge dp i j n (0, lkC kp i j, mk, sq, tc) lim))) (((9 * j) + (3 * i)) + j) (rpa i (rpS dc pa ge dp i j n (0, lkC kp i j, mk, sq, tc) lim))) hx hb hK.1 hP hD hS 11 0 rfl rfl (by omega) (by first | decide | omega) (up_i _ _ _) dX4_replicate_177 (fun H locs hP hD hS => ?_)
            have hP : va_P D vwCl (wM ct g n dc pa va dl ge su ((rpS dc pa ge dp i j n (0, lkC kp i j, mk, sq, tc) lim).2.2.1) dp ((rpS dc pa ge dp i j n (0, lkC kp i j, mk, sq, tc) lim).2.2.2.1) ((rpS dc pa ge dp i j n (0, lkC kp i j, mk, sq, tc) lim).2.2.2.2) (va_up (va_up kp (((9 * i) + (3 * i)) + j) (rpa i (rpS dc pa ge dp i j n (0, lkC kp i j, mk, sq, tc) lim))) (((9 * j) + (3 * i)) + j) (rpa i (rpS dc pa ge dp i j n (0, lkC kp i j, mk, sq, tc) lim))) (gof true true true)) H := hP
            have hD : va_D A (wM ct g n dc pa va dl ge su ((rpS dc pa ge dp i j n (0, lkC kp i j, mk, sq, tc) lim).2.2.1) dp ((rpS dc pa ge dp i j n (0, lkC kp i j, mk, sq, tc) lim).2.2.2.1) ((rpS dc pa ge dp i j n (0, lkC kp i j, mk, sq, tc) lim).2.2.2.2) (va_up (va_up kp (((9 * i) + (3 * i)) + j) (rpa i (rpS dc pa ge dp i j n (0, lkC kp i j, mk, sq, tc) lim))) (((9 * j) + (3 * i)) + j) (rpa i (rpS dc pa ge dp i j n (0, lkC kp i j, mk, sq, tc) lim))) (gof true true true)) := hD
            refine lv_iload hx hb dX4_replicate_178 (lv_at hl 2 rfl) ?_
            have e9 : (gof true true true) = (nI 0) := rfl
            have hP := (congrArg (fun z9 => va_P D vwCl (wM ct g n dc pa va dl ge su ((rpS dc pa ge dp i j n (0, lkC kp i j, mk, sq, tc) lim).2.2.1) dp ((rpS dc pa ge dp i j n (0, lkC kp i j, mk, sq, tc) lim).2.2.2.1) ((rpS dc pa ge dp i j n (0, lkC kp i j, mk, sq, tc) lim).2.2.2.2) (va_up (va_up kp (((9 * i) + (3 * i)) + j) (rpa i (rpS dc pa ge dp i j n (0, lkC kp i j, mk, sq, tc) lim))) (((9 * j) + (3 * i)) + j) (rpa i (rpS dc pa ge dp i j n (0, lkC kp i j, mk, sq, tc) lim))) z9) H) e9).mp hP
            have hP : va_P D vwCl (wM ct g n dc pa va dl ge su ((rpS dc pa ge dp i j n (0, lkC kp i j, mk, sq, tc) lim).2.2.1) dp ((rpS dc pa ge dp i j n (0, lkC kp i j, mk, sq, tc) lim).2.2.2.1) ((rpS dc pa ge dp i j n (0, lkC kp i j, mk, sq, tc) lim).2.2.2.2) (va_up (va_up kp (((9 * i) + (3 * i)) + j) (rpa i (rpS dc pa ge dp i j n (0, lkC kp i j, mk, sq, tc) lim))) (((9 * j) + (3 * i)) + j) (rpa i (rpS dc pa ge dp i j n (0, lkC kp i j, mk, sq, tc) lim))) (nI 0)) H := hP
            exact W.iret hx hb hr (fun t ht hW => ⟨⟨_, (), rfl, rfl, by show va_P D vwCl _ t.heap; rw [ht]; exact hP⟩, hS.F ht⟩) hS.2.2 dX4_replicate_180
          · refine lv_aload_n hx hb dX4_replicate_131 rfl (lv_at hl 3 rfl) ?_
            refine va_get (D := D) (ci := 4) (v := .ref (g 9)) (C := RX4) (T := TX4) (N := 13) hx hb hts (fun _ h => List.mem_cons_of_mem _ (List.mem_append_right _ h)) hown hK.1 hP 0 rfl rfl 9 (by decide) (hts (.fieldLink RX4 35 "RevisionStoresModel" "sequences" "[I") (List.mem_of_getElem? (i := 2) rfl)) (fun _ h9 => h9) rfl dX4_replicate_132 ?_
            refine lv_iload_n hx hb dX4_replicate_135 rfl (lv_at hl 4 rfl) ?_
            refine r_iald (j := i) (v := ((rpS dc pa ge dp i j n (0, lkC kp i j, mk, sq, tc) lim).2.2.2.1) i) hx hb hK.1 hP 9 0 rfl rfl (by omega) (by first | decide | omega) rfl dX4_replicate_136 ?_
            refine lv_goto (tgt := 142) hx hb dX4_replicate_137 (by decide) ?_
            refine r_top (y := rpa i (rpS dc pa ge dp i j n (0, lkC kp i j, mk, sq, tc) lim)) (by simp [rpa, c5, c12, c26, c31, c43, c65, c128]) ?_
            refine lv_istore (lv' := [(5, .int (rpa i (rpS dc pa ge dp i j n (0, lkC kp i j, mk, sq, tc) lim))), (6, .int (nI k)), (4, .int (nI ((rpS dc pa ge dp i j n (0, lkC kp i j, mk, sq, tc) lim).1))), (0, .ref (g 0)), (1, .int (nI i)), (2, .int (nI j)), (3, .int (nI lim))]) hx hb dX4_replicate_142 hl (by decide) rfl (fun ls hl => ?_)
            refine lv_aload_n hx hb dX4_replicate_144 rfl (lv_at hl 3 rfl) ?_
            refine va_get (D := D) (ci := 4) (v := .ref (g 11)) (C := RX4) (T := TX4) (N := 13) hx hb hts (fun _ h => List.mem_cons_of_mem _ (List.mem_append_right _ h)) hown hK.1 hP 0 rfl rfl 11 (by decide) (hts (.fieldLink RX4 41 "RevisionStoresModel" "kept" "[I") (List.mem_of_getElem? (i := 3) rfl)) (fun _ h9 => h9) rfl dX4_replicate_145 ?_
            refine lv_bipush (v := nI 9) hx hb dX4_replicate_148 (by decide) ?_
            refine lv_iload_n hx hb dX4_replicate_150 rfl (lv_at hl 4 rfl) ?_
            refine r_imulN hx hb dX4_replicate_151 ?_
            refine lv_iconst (v := nI 3) hx hb dX4_replicate_152 (by decide) ?_
            refine lv_iload_n hx hb dX4_replicate_153 rfl (lv_at hl 4 rfl) ?_
            refine r_imulN hx hb dX4_replicate_154 ?_
            refine r_iaddN hx hb dX4_replicate_155 ?_
            refine lv_iload_n hx hb dX4_replicate_156 rfl (lv_at hl 5 rfl) ?_
            refine r_iaddN hx hb dX4_replicate_157 ?_
            refine lv_iload hx hb dX4_replicate_158 (lv_at hl 0 rfl) ?_
            refine r_iast (j := ((9 * i) + (3 * i)) + j) (x := (rpa i (rpS dc pa ge dp i j n (0, lkC kp i j, mk, sq, tc) lim))) (f' := va_up kp (((9 * i) + (3 * i)) + j) (rpa i (rpS dc pa ge dp i j n (0, lkC kp i j, mk, sq, tc) lim))) hx hb hK.1 hP hD hS 11 0 rfl rfl (by omega) (by first | decide | omega) (up_i _ _ _) dX4_replicate_160 (fun H locs hP hD hS => ?_)
            have hP : va_P D vwCl (wM ct g n dc pa va dl ge su ((rpS dc pa ge dp i j n (0, lkC kp i j, mk, sq, tc) lim).2.2.1) dp ((rpS dc pa ge dp i j n (0, lkC kp i j, mk, sq, tc) lim).2.2.2.1) ((rpS dc pa ge dp i j n (0, lkC kp i j, mk, sq, tc) lim).2.2.2.2) (va_up kp (((9 * i) + (3 * i)) + j) (rpa i (rpS dc pa ge dp i j n (0, lkC kp i j, mk, sq, tc) lim))) (gof true true true)) H := hP
            have hD : va_D A (wM ct g n dc pa va dl ge su ((rpS dc pa ge dp i j n (0, lkC kp i j, mk, sq, tc) lim).2.2.1) dp ((rpS dc pa ge dp i j n (0, lkC kp i j, mk, sq, tc) lim).2.2.2.1) ((rpS dc pa ge dp i j n (0, lkC kp i j, mk, sq, tc) lim).2.2.2.2) (va_up kp (((9 * i) + (3 * i)) + j) (rpa i (rpS dc pa ge dp i j n (0, lkC kp i j, mk, sq, tc) lim))) (gof true true true)) := hD
            refine lv_aload_n hx hb dX4_replicate_161 rfl (lv_at hl 3 rfl) ?_
            refine va_get (D := D) (ci := 4) (v := .ref (g 11)) (C := RX4) (T := TX4) (N := 13) hx hb hts (fun _ h => List.mem_cons_of_mem _ (List.mem_append_right _ h)) hown hK.1 hP 0 rfl rfl 11 (by decide) (hts (.fieldLink RX4 41 "RevisionStoresModel" "kept" "[I") (List.mem_of_getElem? (i := 3) rfl)) (fun _ h9 => h9) rfl dX4_replicate_162 ?_
            refine lv_bipush (v := nI 9) hx hb dX4_replicate_165 (by decide) ?_
            refine lv_iload_n hx hb dX4_replicate_167 rfl (lv_at hl 5 rfl) ?_
            refine r_imulN hx hb dX4_replicate_168 ?_
            refine lv_iconst (v := nI 3) hx hb dX4_replicate_169 (by decide) ?_
            refine lv_iload_n hx hb dX4_replicate_170 rfl (lv_at hl 4 rfl) ?_
            refine r_imulN hx hb dX4_replicate_171 ?_
            refine r_iaddN hx hb dX4_replicate_172 ?_
            refine lv_iload_n hx hb dX4_replicate_173 rfl (lv_at hl 5 rfl) ?_
            refine r_iaddN hx hb dX4_replicate_174 ?_
            refine lv_iload hx hb dX4_replicate_175 (lv_at hl 0 rfl) ?_
            refine r_iast (j := ((9 * j) + (3 * i)) + j) (x := (rpa i (rpS dc pa ge dp i j n (0, lkC kp i j, mk, sq, tc) lim))) (f' := va_up (va_up kp (((9 * i) + (3 * i)) + j) (rpa i (rpS dc pa ge dp i j n (0, lkC kp i j, mk, sq, tc) lim))) (((9 * j) + (3 * i)) + j) (rpa i (rpS dc pa ge dp i j n (0, lkC kp i j, mk, sq, tc) lim))) hx hb hK.1 hP hD hS 11 0 rfl rfl (by omega) (by first | decide | omega) (up_i _ _ _) dX4_replicate_177 (fun H locs hP hD hS => ?_)
            have hP : va_P D vwCl (wM ct g n dc pa va dl ge su ((rpS dc pa ge dp i j n (0, lkC kp i j, mk, sq, tc) lim).2.2.1) dp ((rpS dc pa ge dp i j n (0, lkC kp i j, mk, sq, tc) lim).2.2.2.1) ((rpS dc pa ge dp i j n (0, lkC kp i j, mk, sq, tc) lim).2.2.2.2) (va_up (va_up kp (((9 * i) + (3 * i)) + j) (rpa i (rpS dc pa ge dp i j n (0, lkC kp i j, mk, sq, tc) lim))) (((9 * j) + (3 * i)) + j) (rpa i (rpS dc pa ge dp i j n (0, lkC kp i j, mk, sq, tc) lim))) (gof true true true)) H := hP
            have hD : va_D A (wM ct g n dc pa va dl ge su ((rpS dc pa ge dp i j n (0, lkC kp i j, mk, sq, tc) lim).2.2.1) dp ((rpS dc pa ge dp i j n (0, lkC kp i j, mk, sq, tc) lim).2.2.2.1) ((rpS dc pa ge dp i j n (0, lkC kp i j, mk, sq, tc) lim).2.2.2.2) (va_up (va_up kp (((9 * i) + (3 * i)) + j) (rpa i (rpS dc pa ge dp i j n (0, lkC kp i j, mk, sq, tc) lim))) (((9 * j) + (3 * i)) + j) (rpa i (rpS dc pa ge dp i j n (0, lkC kp i j, mk, sq, tc) lim))) (gof true true true)) := hD
            refine lv_iload hx hb dX4_replicate_178 (lv_at hl 2 rfl) ?_
            have e9 : (gof true true true) = (nI 0) := rfl
            have hP := (congrArg (fun z9 => va_P D vwCl (wM ct g n dc pa va dl ge su ((rpS dc pa ge dp i j n (0, lkC kp i j, mk, sq, tc) lim).2.2.1) dp ((rpS dc pa ge dp i j n (0, lkC kp i j, mk, sq, tc) lim).2.2.2.1) ((rpS dc pa ge dp i j n (0, lkC kp i j, mk, sq, tc) lim).2.2.2.2) (va_up (va_up kp (((9 * i) + (3 * i)) + j) (rpa i (rpS dc pa ge dp i j n (0, lkC kp i j, mk, sq, tc) lim))) (((9 * j) + (3 * i)) + j) (rpa i (rpS dc pa ge dp i j n (0, lkC kp i j, mk, sq, tc) lim))) z9) H) e9).mp hP
            have hP : va_P D vwCl (wM ct g n dc pa va dl ge su ((rpS dc pa ge dp i j n (0, lkC kp i j, mk, sq, tc) lim).2.2.1) dp ((rpS dc pa ge dp i j n (0, lkC kp i j, mk, sq, tc) lim).2.2.2.1) ((rpS dc pa ge dp i j n (0, lkC kp i j, mk, sq, tc) lim).2.2.2.2) (va_up (va_up kp (((9 * i) + (3 * i)) + j) (rpa i (rpS dc pa ge dp i j n (0, lkC kp i j, mk, sq, tc) lim))) (((9 * j) + (3 * i)) + j) (rpa i (rpS dc pa ge dp i j n (0, lkC kp i j, mk, sq, tc) lim))) (nI 0)) H := hP
            exact W.iret hx hb hr (fun t ht hW => ⟨⟨_, (), rfl, rfl, by show va_P D vwCl _ t.heap; rw [ht]; exact hP⟩, hS.F ht⟩) hS.2.2 dX4_replicate_180
        · refine lv_aload_n hx hb dX4_replicate_68 rfl (lv_at hl 3 rfl) ?_
          refine lv_iload_n hx hb dX4_replicate_69 rfl (lv_at hl 4 rfl) ?_
          refine lv_iload hx hb dX4_replicate_70 (lv_at hl 1 rfl) ?_
          refine r_cV (As := [.int (nI i), .int ((rpS dc pa ge dp i j n (0, lkC kp i j, mk, sq, tc) k).2.1)]) (rest := []) ⟨hx, hb, hml, hown, hts⟩ (cX4_nextOf_ok l D ct g n dc pa va dl ge su ((rpS dc pa ge dp i j n (0, lkC kp i j, mk, sq, tc) k).2.2.1) dp ((rpS dc pa ge dp i j n (0, lkC kp i j, mk, sq, tc) k).2.2.2.1) ((rpS dc pa ge dp i j n (0, lkC kp i j, mk, sq, tc) k).2.2.2.2) kp (gof true true true) i ((rpS dc pa ge dp i j n (0, lkC kp i j, mk, sq, tc) k).2.1) (by first | assumption | omega)) (cwV 2 hts gX4_replicate_X4_nextOf rfl rfl rfl (by decide +kernel) ⟨Nat.le_of_ble_eq_true rfl, Nat.le_of_ble_eq_true rfl⟩) hK (hP.sub (ws' := wM ct g n dc pa va dl ge su ((rpS dc pa ge dp i j n (0, lkC kp i j, mk, sq, tc) k).2.2.1) dp ((rpS dc pa ge dp i j n (0, lkC kp i j, mk, sq, tc) k).2.2.2.1) ((rpS dc pa ge dp i j n (0, lkC kp i j, mk, sq, tc) k).2.2.2.2) kp (gof true true true)) [0, 1, 2, 3, 4, 5, 6, 7, 8, 9, 10, 11] rfl) 0 4 rfl rfl rfl hl.1 rfl (Nat.le_of_ble_eq_true rfl) dX4_replicate_72 ⟨Nat.le_of_ble_eq_true rfl, Nat.le_of_ble_eq_true rfl⟩ ?_
          refine lv_iconst (v := -1) hx hb dX4_replicate_75 (by decide) ?_
          refine r_icmp_eqP hx hb (x := nxS (tcr ((rpS dc pa ge dp i j n (0, lkC kp i j, mk, sq, tc) k).2.2.2.2) i) ((rpS dc pa ge dp i j n (0, lkC kp i j, mk, sq, tc) k).2.1) 4) (by intro j9 h9; have := nxS_lt _ _ _ _ h9; omega) (tgt := 120) dX4_replicate_76 (by decide) (fun c76 => ?_) (fun j76 c76 => ?_)
          · have e120 : (rpS dc pa ge dp i j n (0, lkC kp i j, mk, sq, tc) k) = (rpS dc pa ge dp i j n (0, lkC kp i j, mk, sq, tc) lim) := by first | exact congrArg (rpS dc pa ge dp i j n (0, lkC kp i j, mk, sq, tc)) (show k = lim by omega) | exact rpS_end c76 hk
            have e9 : ((rpS dc pa ge dp i j n (0, lkC kp i j, mk, sq, tc) k).2.2.1) = ((rpS dc pa ge dp i j n (0, lkC kp i j, mk, sq, tc) lim).2.2.1) := by rw [e120]
            have hP := (congrArg (fun z9 => va_P D vwCl (wM ct g n dc pa va dl ge su z9 dp ((rpS dc pa ge dp i j n (0, lkC kp i j, mk, sq, tc) k).2.2.2.1) ((rpS dc pa ge dp i j n (0, lkC kp i j, mk, sq, tc) k).2.2.2.2) kp (gof true true true)) H) e9).mp hP
            have hD := (congrArg (fun z9 => va_D A (wM ct g n dc pa va dl ge su z9 dp ((rpS dc pa ge dp i j n (0, lkC kp i j, mk, sq, tc) k).2.2.2.1) ((rpS dc pa ge dp i j n (0, lkC kp i j, mk, sq, tc) k).2.2.2.2) kp (gof true true true))) e9).mp hD
            have e9 : ((rpS dc pa ge dp i j n (0, lkC kp i j, mk, sq, tc) k).2.2.2.1) = ((rpS dc pa ge dp i j n (0, lkC kp i j, mk, sq, tc) lim).2.2.2.1) := by rw [e120]
            have hP := (congrArg (fun z9 => va_P D vwCl (wM ct g n dc pa va dl ge su ((rpS dc pa ge dp i j n (0, lkC kp i j, mk, sq, tc) lim).2.2.1) dp z9 ((rpS dc pa ge dp i j n (0, lkC kp i j, mk, sq, tc) k).2.2.2.2) kp (gof true true true)) H) e9).mp hP
            have hD := (congrArg (fun z9 => va_D A (wM ct g n dc pa va dl ge su ((rpS dc pa ge dp i j n (0, lkC kp i j, mk, sq, tc) lim).2.2.1) dp z9 ((rpS dc pa ge dp i j n (0, lkC kp i j, mk, sq, tc) k).2.2.2.2) kp (gof true true true))) e9).mp hD
            have e9 : ((rpS dc pa ge dp i j n (0, lkC kp i j, mk, sq, tc) k).2.2.2.2) = ((rpS dc pa ge dp i j n (0, lkC kp i j, mk, sq, tc) lim).2.2.2.2) := by rw [e120]
            have hP := (congrArg (fun z9 => va_P D vwCl (wM ct g n dc pa va dl ge su ((rpS dc pa ge dp i j n (0, lkC kp i j, mk, sq, tc) lim).2.2.1) dp ((rpS dc pa ge dp i j n (0, lkC kp i j, mk, sq, tc) lim).2.2.2.1) z9 kp (gof true true true)) H) e9).mp hP
            have hD := (congrArg (fun z9 => va_D A (wM ct g n dc pa va dl ge su ((rpS dc pa ge dp i j n (0, lkC kp i j, mk, sq, tc) lim).2.2.1) dp ((rpS dc pa ge dp i j n (0, lkC kp i j, mk, sq, tc) lim).2.2.2.1) z9 kp (gof true true true))) e9).mp hD
            have hP : va_P D vwCl (wM ct g n dc pa va dl ge su ((rpS dc pa ge dp i j n (0, lkC kp i j, mk, sq, tc) lim).2.2.1) dp ((rpS dc pa ge dp i j n (0, lkC kp i j, mk, sq, tc) lim).2.2.2.1) ((rpS dc pa ge dp i j n (0, lkC kp i j, mk, sq, tc) lim).2.2.2.2) kp (gof true true true)) H := hP
            have hD : va_D A (wM ct g n dc pa va dl ge su ((rpS dc pa ge dp i j n (0, lkC kp i j, mk, sq, tc) lim).2.2.1) dp ((rpS dc pa ge dp i j n (0, lkC kp i j, mk, sq, tc) lim).2.2.2.1) ((rpS dc pa ge dp i j n (0, lkC kp i j, mk, sq, tc) lim).2.2.2.2) kp (gof true true true)) := hD
            have hl := lv_re (f := fun z9 => [(6, .int (nI k)), (5, .int ((rpS dc pa ge dp i j n (0, lkC kp i j, mk, sq, tc) k).2.1)), (4, .int z9), (0, .ref (g 0)), (1, .int (nI i)), (2, .int (nI j)), (3, .int (nI lim))]) hl (show nI ((rpS dc pa ge dp i j n (0, lkC kp i j, mk, sq, tc) k).1) = nI ((rpS dc pa ge dp i j n (0, lkC kp i j, mk, sq, tc) lim).1) from congrArg nI (show ((rpS dc pa ge dp i j n (0, lkC kp i j, mk, sq, tc) k).1) = ((rpS dc pa ge dp i j n (0, lkC kp i j, mk, sq, tc) lim).1) from by rw [e120]))
            have hl := lv_re (f := fun z9 => [(6, .int (nI k)), (5, .int z9), (4, .int (nI ((rpS dc pa ge dp i j n (0, lkC kp i j, mk, sq, tc) lim).1))), (0, .ref (g 0)), (1, .int (nI i)), (2, .int (nI j)), (3, .int (nI lim))]) hl (show (rpS dc pa ge dp i j n (0, lkC kp i j, mk, sq, tc) k).2.1 = (rpS dc pa ge dp i j n (0, lkC kp i j, mk, sq, tc) lim).2.1 from by rw [e120])
            refine lv_aload_n hx hb dX4_replicate_120 rfl (lv_at hl 3 rfl) ?_
            refine lv_iload_n hx hb dX4_replicate_121 rfl (lv_at hl 4 rfl) ?_
            refine lv_iload hx hb dX4_replicate_122 (lv_at hl 1 rfl) ?_
            refine r_cV (As := [.int (nI i), .int ((rpS dc pa ge dp i j n (0, lkC kp i j, mk, sq, tc) lim).2.1)]) (rest := []) ⟨hx, hb, hml, hown, hts⟩ (cX4_nextOf_ok l D ct g n dc pa va dl ge su ((rpS dc pa ge dp i j n (0, lkC kp i j, mk, sq, tc) lim).2.2.1) dp ((rpS dc pa ge dp i j n (0, lkC kp i j, mk, sq, tc) lim).2.2.2.1) ((rpS dc pa ge dp i j n (0, lkC kp i j, mk, sq, tc) lim).2.2.2.2) kp (gof true true true) i ((rpS dc pa ge dp i j n (0, lkC kp i j, mk, sq, tc) lim).2.1) (by first | assumption | omega)) (cwV 2 hts gX4_replicate_X4_nextOf rfl rfl rfl (by decide +kernel) ⟨Nat.le_of_ble_eq_true rfl, Nat.le_of_ble_eq_true rfl⟩) hK (hP.sub (ws' := wM ct g n dc pa va dl ge su ((rpS dc pa ge dp i j n (0, lkC kp i j, mk, sq, tc) lim).2.2.1) dp ((rpS dc pa ge dp i j n (0, lkC kp i j, mk, sq, tc) lim).2.2.2.1) ((rpS dc pa ge dp i j n (0, lkC kp i j, mk, sq, tc) lim).2.2.2.2) kp (gof true true true)) [0, 1, 2, 3, 4, 5, 6, 7, 8, 9, 10, 11] rfl) 0 4 rfl rfl rfl hl.1 rfl (Nat.le_of_ble_eq_true rfl) dX4_replicate_124 ⟨Nat.le_of_ble_eq_true rfl, Nat.le_of_ble_eq_true rfl⟩ ?_
            refine lv_iconst (v := -1) hx hb dX4_replicate_127 (by decide) ?_
            refine r_icmp_neP hx hb (x := nxS (tcr ((rpS dc pa ge dp i j n (0, lkC kp i j, mk, sq, tc) lim).2.2.2.2) i) ((rpS dc pa ge dp i j n (0, lkC kp i j, mk, sq, tc) lim).2.1) 4) (by intro j9 h9; have := nxS_lt _ _ _ _ h9; omega) (tgt := 140) dX4_replicate_128 (by decide) (fun j128 c128 => ?_) (fun c128 => ?_)
            · refine lv_iload hx hb dX4_replicate_140 (lv_at hl 1 rfl) ?_
              refine r_top (y := rpa i (rpS dc pa ge dp i j n (0, lkC kp i j, mk, sq, tc) lim)) (by simp [rpa, c5, c12, c26, c31, c43, c65, c76, c128]) ?_
              refine lv_istore (lv' := [(5, .int (rpa i (rpS dc pa ge dp i j n (0, lkC kp i j, mk, sq, tc) lim))), (6, .int (nI k)), (4, .int (nI ((rpS dc pa ge dp i j n (0, lkC kp i j, mk, sq, tc) lim).1))), (0, .ref (g 0)), (1, .int (nI i)), (2, .int (nI j)), (3, .int (nI lim))]) hx hb dX4_replicate_142 hl (by decide) rfl (fun ls hl => ?_)
              refine lv_aload_n hx hb dX4_replicate_144 rfl (lv_at hl 3 rfl) ?_
              refine va_get (D := D) (ci := 4) (v := .ref (g 11)) (C := RX4) (T := TX4) (N := 13) hx hb hts (fun _ h => List.mem_cons_of_mem _ (List.mem_append_right _ h)) hown hK.1 hP 0 rfl rfl 11 (by decide) (hts (.fieldLink RX4 41 "RevisionStoresModel" "kept" "[I") (List.mem_of_getElem? (i := 3) rfl)) (fun _ h9 => h9) rfl dX4_replicate_145 ?_
              refine lv_bipush (v := nI 9) hx hb dX4_replicate_148 (by decide) ?_
              refine lv_iload_n hx hb dX4_replicate_150 rfl (lv_at hl 4 rfl) ?_
              refine r_imulN hx hb dX4_replicate_151 ?_
              refine lv_iconst (v := nI 3) hx hb dX4_replicate_152 (by decide) ?_
              refine lv_iload_n hx hb dX4_replicate_153 rfl (lv_at hl 4 rfl) ?_
              refine r_imulN hx hb dX4_replicate_154 ?_
              refine r_iaddN hx hb dX4_replicate_155 ?_
              refine lv_iload_n hx hb dX4_replicate_156 rfl (lv_at hl 5 rfl) ?_
              refine r_iaddN hx hb dX4_replicate_157 ?_
              refine lv_iload hx hb dX4_replicate_158 (lv_at hl 0 rfl) ?_
              refine r_iast (j := ((9 * i) + (3 * i)) + j) (x := (rpa i (rpS dc pa ge dp i j n (0, lkC kp i j, mk, sq, tc) lim))) (f' := va_up kp (((9 * i) + (3 * i)) + j) (rpa i (rpS dc pa ge dp i j n (0, lkC kp i j, mk, sq, tc) lim))) hx hb hK.1 hP hD hS 11 0 rfl rfl (by omega) (by first | decide | omega) (up_i _ _ _) dX4_replicate_160 (fun H locs hP hD hS => ?_)
              have hP : va_P D vwCl (wM ct g n dc pa va dl ge su ((rpS dc pa ge dp i j n (0, lkC kp i j, mk, sq, tc) lim).2.2.1) dp ((rpS dc pa ge dp i j n (0, lkC kp i j, mk, sq, tc) lim).2.2.2.1) ((rpS dc pa ge dp i j n (0, lkC kp i j, mk, sq, tc) lim).2.2.2.2) (va_up kp (((9 * i) + (3 * i)) + j) (rpa i (rpS dc pa ge dp i j n (0, lkC kp i j, mk, sq, tc) lim))) (gof true true true)) H := hP
              have hD : va_D A (wM ct g n dc pa va dl ge su ((rpS dc pa ge dp i j n (0, lkC kp i j, mk, sq, tc) lim).2.2.1) dp ((rpS dc pa ge dp i j n (0, lkC kp i j, mk, sq, tc) lim).2.2.2.1) ((rpS dc pa ge dp i j n (0, lkC kp i j, mk, sq, tc) lim).2.2.2.2) (va_up kp (((9 * i) + (3 * i)) + j) (rpa i (rpS dc pa ge dp i j n (0, lkC kp i j, mk, sq, tc) lim))) (gof true true true)) := hD
              refine lv_aload_n hx hb dX4_replicate_161 rfl (lv_at hl 3 rfl) ?_
              refine va_get (D := D) (ci := 4) (v := .ref (g 11)) (C := RX4) (T := TX4) (N := 13) hx hb hts (fun _ h => List.mem_cons_of_mem _ (List.mem_append_right _ h)) hown hK.1 hP 0 rfl rfl 11 (by decide) (hts (.fieldLink RX4 41 "RevisionStoresModel" "kept" "[I") (List.mem_of_getElem? (i := 3) rfl)) (fun _ h9 => h9) rfl dX4_replicate_162 ?_
              refine lv_bipush (v := nI 9) hx hb dX4_replicate_165 (by decide) ?_
              refine lv_iload_n hx hb dX4_replicate_167 rfl (lv_at hl 5 rfl) ?_
              refine r_imulN hx hb dX4_replicate_168 ?_
              refine lv_iconst (v := nI 3) hx hb dX4_replicate_169 (by decide) ?_
              refine lv_iload_n hx hb dX4_replicate_170 rfl (lv_at hl 4 rfl) ?_
              refine r_imulN hx hb dX4_replicate_171 ?_
              refine r_iaddN hx hb dX4_replicate_172 ?_
              refine lv_iload_n hx hb dX4_replicate_173 rfl (lv_at hl 5 rfl) ?_
              refine r_iaddN hx hb dX4_replicate_174 ?_
              refine lv_iload hx hb dX4_replicate_175 (lv_at hl 0 rfl) ?_
              refine r_iast (j := ((9 * j) + (3 * i)) + j) (x := (rpa i (rpS dc pa ge dp i j n (0, lkC kp i j, mk, sq, tc) lim))) (f' := va_up (va_up kp (((9 * i) + (3 * i)) + j) (rpa i (rpS dc pa ge dp i j n (0, lkC kp i j, mk, sq, tc) lim))) (((9 * j) + (3 * i)) + j) (rpa i (rpS dc pa ge dp i j n (0, lkC kp i j, mk, sq, tc) lim))) hx hb hK.1 hP hD hS 11 0 rfl rfl (by omega) (by first | decide | omega) (up_i _ _ _) dX4_replicate_177 (fun H locs hP hD hS => ?_)
              have hP : va_P D vwCl (wM ct g n dc pa va dl ge su ((rpS dc pa ge dp i j n (0, lkC kp i j, mk, sq, tc) lim).2.2.1) dp ((rpS dc pa ge dp i j n (0, lkC kp i j, mk, sq, tc) lim).2.2.2.1) ((rpS dc pa ge dp i j n (0, lkC kp i j, mk, sq, tc) lim).2.2.2.2) (va_up (va_up kp (((9 * i) + (3 * i)) + j) (rpa i (rpS dc pa ge dp i j n (0, lkC kp i j, mk, sq, tc) lim))) (((9 * j) + (3 * i)) + j) (rpa i (rpS dc pa ge dp i j n (0, lkC kp i j, mk, sq, tc) lim))) (gof true true true)) H := hP
              have hD : va_D A (wM ct g n dc pa va dl ge su ((rpS dc pa ge dp i j n (0, lkC kp i j, mk, sq, tc) lim).2.2.1) dp ((rpS dc pa ge dp i j n (0, lkC kp i j, mk, sq, tc) lim).2.2.2.1) ((rpS dc pa ge dp i j n (0, lkC kp i j, mk, sq, tc) lim).2.2.2.2) (va_up (va_up kp (((9 * i) + (3 * i)) + j) (rpa i (rpS dc pa ge dp i j n (0, lkC kp i j, mk, sq, tc) lim))) (((9 * j) + (3 * i)) + j) (rpa i (rpS dc pa ge dp i j n (0, lkC kp i j, mk, sq, tc) lim))) (gof true true true)) := hD
              refine lv_iload hx hb dX4_replicate_178 (lv_at hl 2 rfl) ?_
              have e9 : (gof true true true) = (nI 0) := rfl
              have hP := (congrArg (fun z9 => va_P D vwCl (wM ct g n dc pa va dl ge su ((rpS dc pa ge dp i j n (0, lkC kp i j, mk, sq, tc) lim).2.2.1) dp ((rpS dc pa ge dp i j n (0, lkC kp i j, mk, sq, tc) lim).2.2.2.1) ((rpS dc pa ge dp i j n (0, lkC kp i j, mk, sq, tc) lim).2.2.2.2) (va_up (va_up kp (((9 * i) + (3 * i)) + j) (rpa i (rpS dc pa ge dp i j n (0, lkC kp i j, mk, sq, tc) lim))) (((9 * j) + (3 * i)) + j) (rpa i (rpS dc pa ge dp i j n (0, lkC kp i j, mk, sq, tc) lim))) z9) H) e9).mp hP
              have hP : va_P D vwCl (wM ct g n dc pa va dl ge su ((rpS dc pa ge dp i j n (0, lkC kp i j, mk, sq, tc) lim).2.2.1) dp ((rpS dc pa ge dp i j n (0, lkC kp i j, mk, sq, tc) lim).2.2.2.1) ((rpS dc pa ge dp i j n (0, lkC kp i j, mk, sq, tc) lim).2.2.2.2) (va_up (va_up kp (((9 * i) + (3 * i)) + j) (rpa i (rpS dc pa ge dp i j n (0, lkC kp i j, mk, sq, tc) lim))) (((9 * j) + (3 * i)) + j) (rpa i (rpS dc pa ge dp i j n (0, lkC kp i j, mk, sq, tc) lim))) (nI 0)) H := hP
              exact W.iret hx hb hr (fun t ht hW => ⟨⟨_, (), rfl, rfl, by show va_P D vwCl _ t.heap; rw [ht]; exact hP⟩, hS.F ht⟩) hS.2.2 dX4_replicate_180
            · refine lv_aload_n hx hb dX4_replicate_131 rfl (lv_at hl 3 rfl) ?_
              refine va_get (D := D) (ci := 4) (v := .ref (g 9)) (C := RX4) (T := TX4) (N := 13) hx hb hts (fun _ h => List.mem_cons_of_mem _ (List.mem_append_right _ h)) hown hK.1 hP 0 rfl rfl 9 (by decide) (hts (.fieldLink RX4 35 "RevisionStoresModel" "sequences" "[I") (List.mem_of_getElem? (i := 2) rfl)) (fun _ h9 => h9) rfl dX4_replicate_132 ?_
              refine lv_iload_n hx hb dX4_replicate_135 rfl (lv_at hl 4 rfl) ?_
              refine r_iald (j := i) (v := ((rpS dc pa ge dp i j n (0, lkC kp i j, mk, sq, tc) lim).2.2.2.1) i) hx hb hK.1 hP 9 0 rfl rfl (by omega) (by first | decide | omega) rfl dX4_replicate_136 ?_
              refine lv_goto (tgt := 142) hx hb dX4_replicate_137 (by decide) ?_
              refine r_top (y := rpa i (rpS dc pa ge dp i j n (0, lkC kp i j, mk, sq, tc) lim)) (by simp [rpa, c5, c12, c26, c31, c43, c65, c76, c128]) ?_
              refine lv_istore (lv' := [(5, .int (rpa i (rpS dc pa ge dp i j n (0, lkC kp i j, mk, sq, tc) lim))), (6, .int (nI k)), (4, .int (nI ((rpS dc pa ge dp i j n (0, lkC kp i j, mk, sq, tc) lim).1))), (0, .ref (g 0)), (1, .int (nI i)), (2, .int (nI j)), (3, .int (nI lim))]) hx hb dX4_replicate_142 hl (by decide) rfl (fun ls hl => ?_)
              refine lv_aload_n hx hb dX4_replicate_144 rfl (lv_at hl 3 rfl) ?_
              refine va_get (D := D) (ci := 4) (v := .ref (g 11)) (C := RX4) (T := TX4) (N := 13) hx hb hts (fun _ h => List.mem_cons_of_mem _ (List.mem_append_right _ h)) hown hK.1 hP 0 rfl rfl 11 (by decide) (hts (.fieldLink RX4 41 "RevisionStoresModel" "kept" "[I") (List.mem_of_getElem? (i := 3) rfl)) (fun _ h9 => h9) rfl dX4_replicate_145 ?_
              refine lv_bipush (v := nI 9) hx hb dX4_replicate_148 (by decide) ?_
              refine lv_iload_n hx hb dX4_replicate_150 rfl (lv_at hl 4 rfl) ?_
              refine r_imulN hx hb dX4_replicate_151 ?_
              refine lv_iconst (v := nI 3) hx hb dX4_replicate_152 (by decide) ?_
              refine lv_iload_n hx hb dX4_replicate_153 rfl (lv_at hl 4 rfl) ?_
              refine r_imulN hx hb dX4_replicate_154 ?_
              refine r_iaddN hx hb dX4_replicate_155 ?_
              refine lv_iload_n hx hb dX4_replicate_156 rfl (lv_at hl 5 rfl) ?_
              refine r_iaddN hx hb dX4_replicate_157 ?_
              refine lv_iload hx hb dX4_replicate_158 (lv_at hl 0 rfl) ?_
              refine r_iast (j := ((9 * i) + (3 * i)) + j) (x := (rpa i (rpS dc pa ge dp i j n (0, lkC kp i j, mk, sq, tc) lim))) (f' := va_up kp (((9 * i) + (3 * i)) + j) (rpa i (rpS dc pa ge dp i j n (0, lkC kp i j, mk, sq, tc) lim))) hx hb hK.1 hP hD hS 11 0 rfl rfl (by omega) (by first | decide | omega) (up_i _ _ _) dX4_replicate_160 (fun H locs hP hD hS => ?_)
              have hP : va_P D vwCl (wM ct g n dc pa va dl ge su ((rpS dc pa ge dp i j n (0, lkC kp i j, mk, sq, tc) lim).2.2.1) dp ((rpS dc pa ge dp i j n (0, lkC kp i j, mk, sq, tc) lim).2.2.2.1) ((rpS dc pa ge dp i j n (0, lkC kp i j, mk, sq, tc) lim).2.2.2.2) (va_up kp (((9 * i) + (3 * i)) + j) (rpa i (rpS dc pa ge dp i j n (0, lkC kp i j, mk, sq, tc) lim))) (gof true true true)) H := hP
              have hD : va_D A (wM ct g n dc pa va dl ge su ((rpS dc pa ge dp i j n (0, lkC kp i j, mk, sq, tc) lim).2.2.1) dp ((rpS dc pa ge dp i j n (0, lkC kp i j, mk, sq, tc) lim).2.2.2.1) ((rpS dc pa ge dp i j n (0, lkC kp i j, mk, sq, tc) lim).2.2.2.2) (va_up kp (((9 * i) + (3 * i)) + j) (rpa i (rpS dc pa ge dp i j n (0, lkC kp i j, mk, sq, tc) lim))) (gof true true true)) := hD
              refine lv_aload_n hx hb dX4_replicate_161 rfl (lv_at hl 3 rfl) ?_
              refine va_get (D := D) (ci := 4) (v := .ref (g 11)) (C := RX4) (T := TX4) (N := 13) hx hb hts (fun _ h => List.mem_cons_of_mem _ (List.mem_append_right _ h)) hown hK.1 hP 0 rfl rfl 11 (by decide) (hts (.fieldLink RX4 41 "RevisionStoresModel" "kept" "[I") (List.mem_of_getElem? (i := 3) rfl)) (fun _ h9 => h9) rfl dX4_replicate_162 ?_
              refine lv_bipush (v := nI 9) hx hb dX4_replicate_165 (by decide) ?_
              refine lv_iload_n hx hb dX4_replicate_167 rfl (lv_at hl 5 rfl) ?_
              refine r_imulN hx hb dX4_replicate_168 ?_
              refine lv_iconst (v := nI 3) hx hb dX4_replicate_169 (by decide) ?_
              refine lv_iload_n hx hb dX4_replicate_170 rfl (lv_at hl 4 rfl) ?_
              refine r_imulN hx hb dX4_replicate_171 ?_
              refine r_iaddN hx hb dX4_replicate_172 ?_
              refine lv_iload_n hx hb dX4_replicate_173 rfl (lv_at hl 5 rfl) ?_
              refine r_iaddN hx hb dX4_replicate_174 ?_
              refine lv_iload hx hb dX4_replicate_175 (lv_at hl 0 rfl) ?_
              refine r_iast (j := ((9 * j) + (3 * i)) + j) (x := (rpa i (rpS dc pa ge dp i j n (0, lkC kp i j, mk, sq, tc) lim))) (f' := va_up (va_up kp (((9 * i) + (3 * i)) + j) (rpa i (rpS dc pa ge dp i j n (0, lkC kp i j, mk, sq, tc) lim))) (((9 * j) + (3 * i)) + j) (rpa i (rpS dc pa ge dp i j n (0, lkC kp i j, mk, sq, tc) lim))) hx hb hK.1 hP hD hS 11 0 rfl rfl (by omega) (by first | decide | omega) (up_i _ _ _) dX4_replicate_177 (fun H locs hP hD hS => ?_)
              have hP : va_P D vwCl (wM ct g n dc pa va dl ge su ((rpS dc pa ge dp i j n (0, lkC kp i j, mk, sq, tc) lim).2.2.1) dp ((rpS dc pa ge dp i j n (0, lkC kp i j, mk, sq, tc) lim).2.2.2.1) ((rpS dc pa ge dp i j n (0, lkC kp i j, mk, sq, tc) lim).2.2.2.2) (va_up (va_up kp (((9 * i) + (3 * i)) + j) (rpa i (rpS dc pa ge dp i j n (0, lkC kp i j, mk, sq, tc) lim))) (((9 * j) + (3 * i)) + j) (rpa i (rpS dc pa ge dp i j n (0, lkC kp i j, mk, sq, tc) lim))) (gof true true true)) H := hP
              have hD : va_D A (wM ct g n dc pa va dl ge su ((rpS dc pa ge dp i j n (0, lkC kp i j, mk, sq, tc) lim).2.2.1) dp ((rpS dc pa ge dp i j n (0, lkC kp i j, mk, sq, tc) lim).2.2.2.1) ((rpS dc pa ge dp i j n (0, lkC kp i j, mk, sq, tc) lim).2.2.2.2) (va_up (va_up kp (((9 * i) + (3 * i)) + j) (rpa i (rpS dc pa ge dp i j n (0, lkC kp i j, mk, sq, tc) lim))) (((9 * j) + (3 * i)) + j) (rpa i (rpS dc pa ge dp i j n (0, lkC kp i j, mk, sq, tc) lim))) (gof true true true)) := hD
              refine lv_iload hx hb dX4_replicate_178 (lv_at hl 2 rfl) ?_
              have e9 : (gof true true true) = (nI 0) := rfl
              have hP := (congrArg (fun z9 => va_P D vwCl (wM ct g n dc pa va dl ge su ((rpS dc pa ge dp i j n (0, lkC kp i j, mk, sq, tc) lim).2.2.1) dp ((rpS dc pa ge dp i j n (0, lkC kp i j, mk, sq, tc) lim).2.2.2.1) ((rpS dc pa ge dp i j n (0, lkC kp i j, mk, sq, tc) lim).2.2.2.2) (va_up (va_up kp (((9 * i) + (3 * i)) + j) (rpa i (rpS dc pa ge dp i j n (0, lkC kp i j, mk, sq, tc) lim))) (((9 * j) + (3 * i)) + j) (rpa i (rpS dc pa ge dp i j n (0, lkC kp i j, mk, sq, tc) lim))) z9) H) e9).mp hP
              have hP : va_P D vwCl (wM ct g n dc pa va dl ge su ((rpS dc pa ge dp i j n (0, lkC kp i j, mk, sq, tc) lim).2.2.1) dp ((rpS dc pa ge dp i j n (0, lkC kp i j, mk, sq, tc) lim).2.2.2.1) ((rpS dc pa ge dp i j n (0, lkC kp i j, mk, sq, tc) lim).2.2.2.2) (va_up (va_up kp (((9 * i) + (3 * i)) + j) (rpa i (rpS dc pa ge dp i j n (0, lkC kp i j, mk, sq, tc) lim))) (((9 * j) + (3 * i)) + j) (rpa i (rpS dc pa ge dp i j n (0, lkC kp i j, mk, sq, tc) lim))) (nI 0)) H := hP
              exact W.iret hx hb hr (fun t ht hW => ⟨⟨_, (), rfl, rfl, by show va_P D vwCl _ t.heap; rw [ht]; exact hP⟩, hS.F ht⟩) hS.2.2 dX4_replicate_180
          · have e79 := nxS_lt _ _ _ _ c76
            refine lv_aload_n hx hb dX4_replicate_79 rfl (lv_at hl 3 rfl) ?_
            refine lv_iload_n hx hb dX4_replicate_80 rfl (lv_at hl 4 rfl) ?_
            refine lv_iload hx hb dX4_replicate_81 (lv_at hl 1 rfl) ?_
            refine r_cV (As := [.int (nI i), .int ((rpS dc pa ge dp i j n (0, lkC kp i j, mk, sq, tc) k).2.1)]) (rest := []) ⟨hx, hb, hml, hown, hts⟩ (cX4_nextOf_ok l D ct g n dc pa va dl ge su ((rpS dc pa ge dp i j n (0, lkC kp i j, mk, sq, tc) k).2.2.1) dp ((rpS dc pa ge dp i j n (0, lkC kp i j, mk, sq, tc) k).2.2.2.1) ((rpS dc pa ge dp i j n (0, lkC kp i j, mk, sq, tc) k).2.2.2.2) kp (gof true true true) i ((rpS dc pa ge dp i j n (0, lkC kp i j, mk, sq, tc) k).2.1) (by first | assumption | omega)) (cwV 2 hts gX4_replicate_X4_nextOf rfl rfl rfl (by decide +kernel) ⟨Nat.le_of_ble_eq_true rfl, Nat.le_of_ble_eq_true rfl⟩) hK (hP.sub (ws' := wM ct g n dc pa va dl ge su ((rpS dc pa ge dp i j n (0, lkC kp i j, mk, sq, tc) k).2.2.1) dp ((rpS dc pa ge dp i j n (0, lkC kp i j, mk, sq, tc) k).2.2.2.1) ((rpS dc pa ge dp i j n (0, lkC kp i j, mk, sq, tc) k).2.2.2.2) kp (gof true true true)) [0, 1, 2, 3, 4, 5, 6, 7, 8, 9, 10, 11] rfl) 0 4 rfl rfl rfl hl.1 rfl (Nat.le_of_ble_eq_true rfl) dX4_replicate_83 ⟨Nat.le_of_ble_eq_true rfl, Nat.le_of_ble_eq_true rfl⟩ ?_
            refine r_top (y := nI j76) (congrArg eP c76) ?_
            refine lv_istore (lv' := [(7, .int (nI j76)), (6, .int (nI k)), (5, .int ((rpS dc pa ge dp i j n (0, lkC kp i j, mk, sq, tc) k).2.1)), (4, .int (nI ((rpS dc pa ge dp i j n (0, lkC kp i j, mk, sq, tc) k).1))), (0, .ref (g 0)), (1, .int (nI i)), (2, .int (nI j)), (3, .int (nI lim))]) hx hb dX4_replicate_86 hl (by decide) rfl (fun ls hl => ?_)
            refine lv_iload hx hb dX4_replicate_88 (lv_at hl 3 rfl) ?_
            refine lv_aload_n hx hb dX4_replicate_90 rfl (lv_at hl 4 rfl) ?_
            refine lv_iload_n hx hb dX4_replicate_91 rfl (lv_at hl 5 rfl) ?_
            refine lv_iload_n hx hb dX4_replicate_92 rfl (lv_at hl 6 rfl) ?_
            refine lv_iload hx hb dX4_replicate_93 (lv_at hl 0 rfl) ?_
            refine r_wVi (As := [.int (nI i), .int (nI j), .int (nI j76)]) (rest := [.int (nI ((rpS dc pa ge dp i j n (0, lkC kp i j, mk, sq, tc) k).1))]) ⟨hx, hb, hml, hown, hts⟩ (cX4_gets_ok l D ct g n dc pa va dl ge su ((rpS dc pa ge dp i j n (0, lkC kp i j, mk, sq, tc) k).2.2.1) dp ((rpS dc pa ge dp i j n (0, lkC kp i j, mk, sq, tc) k).2.2.2.1) ((rpS dc pa ge dp i j n (0, lkC kp i j, mk, sq, tc) k).2.2.2.2) kp (gof true true true) i j j76 (by first | assumption | omega) (by first | assumption | omega) (by first | assumption | omega) (by first | assumption | omega) (by first | assumption | omega) (by first | assumption | omega) (by first | assumption | omega) H.size) (cwV 3 hts gX4_replicate_X4_gets rfl rfl rfl (by decide +kernel) ⟨Nat.le_of_ble_eq_true rfl, Nat.le_of_ble_eq_true rfl⟩) hK hP hD hS hA [0, 1, 2, 3, 4, 5, 6, 7, 8, 9, 10, 11] rfl rfl rfl 0 4 rfl rfl rfl hl.1 rfl (Nat.le_of_ble_eq_true rfl) dX4_replicate_95 ⟨Nat.le_of_ble_eq_true rfl, Nat.le_of_ble_eq_true rfl⟩ (fun H locs hP hD hS => ?_)
            have hP : va_P D vwCl (wM ct g n dc pa va dl ge su (if 0 < (gtS dc pa i j n j76 ((rpS dc pa ge dp i j n (0, lkC kp i j, mk, sq, tc) k).2.2.1) n).1 then (smS pa ge dp j n (gtS dc pa i j n j76 ((rpS dc pa ge dp i j n (0, lkC kp i j, mk, sq, tc) k).2.2.1) n).2 n).2 else (gtS dc pa i j n j76 ((rpS dc pa ge dp i j n (0, lkC kp i j, mk, sq, tc) k).2.2.1) n).2) dp (if 0 < (gtS dc pa i j n j76 ((rpS dc pa ge dp i j n (0, lkC kp i j, mk, sq, tc) k).2.2.1) n).1 then va_up ((rpS dc pa ge dp i j n (0, lkC kp i j, mk, sq, tc) k).2.2.2.1) j (((rpS dc pa ge dp i j n (0, lkC kp i j, mk, sq, tc) k).2.2.2.1) j + nI 1) else ((rpS dc pa ge dp i j n (0, lkC kp i j, mk, sq, tc) k).2.2.2.1)) (if 0 < (gtS dc pa i j n j76 ((rpS dc pa ge dp i j n (0, lkC kp i j, mk, sq, tc) k).2.2.1) n).1 then va_up ((rpS dc pa ge dp i j n (0, lkC kp i j, mk, sq, tc) k).2.2.2.2) ((4 * j) + j76) (((rpS dc pa ge dp i j n (0, lkC kp i j, mk, sq, tc) k).2.2.2.1) j + nI 1) else ((rpS dc pa ge dp i j n (0, lkC kp i j, mk, sq, tc) k).2.2.2.2)) kp (gof true true true)) H := hP
            have hD : va_D A (wM ct g n dc pa va dl ge su (if 0 < (gtS dc pa i j n j76 ((rpS dc pa ge dp i j n (0, lkC kp i j, mk, sq, tc) k).2.2.1) n).1 then (smS pa ge dp j n (gtS dc pa i j n j76 ((rpS dc pa ge dp i j n (0, lkC kp i j, mk, sq, tc) k).2.2.1) n).2 n).2 else (gtS dc pa i j n j76 ((rpS dc pa ge dp i j n (0, lkC kp i j, mk, sq, tc) k).2.2.1) n).2) dp (if 0 < (gtS dc pa i j n j76 ((rpS dc pa ge dp i j n (0, lkC kp i j, mk, sq, tc) k).2.2.1) n).1 then va_up ((rpS dc pa ge dp i j n (0, lkC kp i j, mk, sq, tc) k).2.2.2.1) j (((rpS dc pa ge dp i j n (0, lkC kp i j, mk, sq, tc) k).2.2.2.1) j + nI 1) else ((rpS dc pa ge dp i j n (0, lkC kp i j, mk, sq, tc) k).2.2.2.1)) (if 0 < (gtS dc pa i j n j76 ((rpS dc pa ge dp i j n (0, lkC kp i j, mk, sq, tc) k).2.2.1) n).1 then va_up ((rpS dc pa ge dp i j n (0, lkC kp i j, mk, sq, tc) k).2.2.2.2) ((4 * j) + j76) (((rpS dc pa ge dp i j n (0, lkC kp i j, mk, sq, tc) k).2.2.2.1) j + nI 1) else ((rpS dc pa ge dp i j n (0, lkC kp i j, mk, sq, tc) k).2.2.2.2)) kp (gof true true true)) := hD
            refine r_iaddN hx hb dX4_replicate_98 ?_
            refine lv_istore (lv' := [(4, .int (nI (((rpS dc pa ge dp i j n (0, lkC kp i j, mk, sq, tc) k).1) + ((gtS dc pa i j n j76 ((rpS dc pa ge dp i j n (0, lkC kp i j, mk, sq, tc) k).2.2.1) n).1)))), (7, .int (nI j76)), (6, .int (nI k)), (5, .int ((rpS dc pa ge dp i j n (0, lkC kp i j, mk, sq, tc) k).2.1)), (0, .ref (g 0)), (1, .int (nI i)), (2, .int (nI j)), (3, .int (nI lim))]) hx hb dX4_replicate_99 hl (by decide) rfl (fun ls hl => ?_)
            refine lv_aload_n hx hb dX4_replicate_101 rfl (lv_at hl 4 rfl) ?_
            refine va_get (D := D) (ci := 4) (v := .ref (g 10)) (C := RX4) (T := TX4) (N := 13) hx hb hts (fun _ h => List.mem_cons_of_mem _ (List.mem_append_right _ h)) hown hK.1 hP 0 rfl rfl 10 (by decide) (hts (.fieldLink RX4 38 "RevisionStoresModel" "touched" "[I") (List.mem_of_getElem? (i := 1) rfl)) (fun _ h9 => h9) rfl dX4_replicate_102 ?_
            refine lv_iconst (v := nI 4) hx hb dX4_replicate_105 (by decide) ?_
            refine lv_iload_n hx hb dX4_replicate_106 rfl (lv_at hl 5 rfl) ?_
            refine r_imulN hx hb dX4_replicate_107 ?_
            refine lv_iload hx hb dX4_replicate_108 (lv_at hl 1 rfl) ?_
            refine r_iaddN hx hb dX4_replicate_110 ?_
            refine r_iald (j := (4 * i) + j76) (v := (if 0 < (gtS dc pa i j n j76 ((rpS dc pa ge dp i j n (0, lkC kp i j, mk, sq, tc) k).2.2.1) n).1 then va_up ((rpS dc pa ge dp i j n (0, lkC kp i j, mk, sq, tc) k).2.2.2.2) ((4 * j) + j76) (((rpS dc pa ge dp i j n (0, lkC kp i j, mk, sq, tc) k).2.2.2.1) j + nI 1) else ((rpS dc pa ge dp i j n (0, lkC kp i j, mk, sq, tc) k).2.2.2.2)) ((4 * i) + j76)) hx hb hK.1 hP 10 0 rfl rfl (by omega) (by first | decide | omega) rfl dX4_replicate_111 ?_
            refine lv_istore (lv' := [(5, .int ((if 0 < (gtS dc pa i j n j76 ((rpS dc pa ge dp i j n (0, lkC kp i j, mk, sq, tc) k).2.2.1) n).1 then va_up ((rpS dc pa ge dp i j n (0, lkC kp i j, mk, sq, tc) k).2.2.2.2) ((4 * j) + j76) (((rpS dc pa ge dp i j n (0, lkC kp i j, mk, sq, tc) k).2.2.2.1) j + nI 1) else ((rpS dc pa ge dp i j n (0, lkC kp i j, mk, sq, tc) k).2.2.2.2)) ((4 * i) + j76))), (4, .int (nI (((rpS dc pa ge dp i j n (0, lkC kp i j, mk, sq, tc) k).1) + ((gtS dc pa i j n j76 ((rpS dc pa ge dp i j n (0, lkC kp i j, mk, sq, tc) k).2.2.1) n).1)))), (7, .int (nI j76)), (6, .int (nI k)), (0, .ref (g 0)), (1, .int (nI i)), (2, .int (nI j)), (3, .int (nI lim))]) hx hb dX4_replicate_112 hl (by decide) rfl (fun ls hl => ?_)
            refine lv_iinc (v := nI (k + 1)) (lv' := [(6, .int (nI (k + 1))), (5, .int ((if 0 < (gtS dc pa i j n j76 ((rpS dc pa ge dp i j n (0, lkC kp i j, mk, sq, tc) k).2.2.1) n).1 then va_up ((rpS dc pa ge dp i j n (0, lkC kp i j, mk, sq, tc) k).2.2.2.2) ((4 * j) + j76) (((rpS dc pa ge dp i j n (0, lkC kp i j, mk, sq, tc) k).2.2.2.1) j + nI 1) else ((rpS dc pa ge dp i j n (0, lkC kp i j, mk, sq, tc) k).2.2.2.2)) ((4 * i) + j76))), (4, .int (nI (((rpS dc pa ge dp i j n (0, lkC kp i j, mk, sq, tc) k).1) + ((gtS dc pa i j n j76 ((rpS dc pa ge dp i j n (0, lkC kp i j, mk, sq, tc) k).2.2.1) n).1)))), (7, .int (nI j76)), (0, .ref (g 0)), (1, .int (nI i)), (2, .int (nI j)), (3, .int (nI lim))]) hx hb dX4_replicate_114 hl (k := 3) rfl (nI_1 _) (by decide) rfl (fun ls hl => ?_)
            refine lv_goto (tgt := 62) hx hb dX4_replicate_117 (by decide) ?_
            have hl := lv_re (f := fun z9 => [(6, .int (nI (k + 1))), (5, .int z9), (4, .int (nI (((rpS dc pa ge dp i j n (0, lkC kp i j, mk, sq, tc) k).1) + ((gtS dc pa i j n j76 ((rpS dc pa ge dp i j n (0, lkC kp i j, mk, sq, tc) k).2.2.1) n).1)))), (7, .int (nI j76)), (0, .ref (g 0)), (1, .int (nI i)), (2, .int (nI j)), (3, .int (nI lim))]) hl (show (if 0 < (gtS dc pa i j n j76 ((rpS dc pa ge dp i j n (0, lkC kp i j, mk, sq, tc) k).2.2.1) n).1 then va_up ((rpS dc pa ge dp i j n (0, lkC kp i j, mk, sq, tc) k).2.2.2.2) ((4 * j) + j76) (((rpS dc pa ge dp i j n (0, lkC kp i j, mk, sq, tc) k).2.2.2.1) j + nI 1) else ((rpS dc pa ge dp i j n (0, lkC kp i j, mk, sq, tc) k).2.2.2.2)) ((4 * i) + j76) = (rpS dc pa ge dp i j n (0, lkC kp i j, mk, sq, tc) (k + 1)).2.1 from (congrArg (fun z => z.2.1) (rpS_s c76)).symm)
            have hl := lv_re (f := fun z9 => [(6, .int (nI (k + 1))), (5, .int ((rpS dc pa ge dp i j n (0, lkC kp i j, mk, sq, tc) (k + 1)).2.1)), (4, .int z9), (7, .int (nI j76)), (0, .ref (g 0)), (1, .int (nI i)), (2, .int (nI j)), (3, .int (nI lim))]) hl (show nI (((rpS dc pa ge dp i j n (0, lkC kp i j, mk, sq, tc) k).1) + ((gtS dc pa i j n j76 ((rpS dc pa ge dp i j n (0, lkC kp i j, mk, sq, tc) k).2.2.1) n).1)) = nI ((rpS dc pa ge dp i j n (0, lkC kp i j, mk, sq, tc) (k + 1)).1) from congrArg nI (show (((rpS dc pa ge dp i j n (0, lkC kp i j, mk, sq, tc) k).1) + ((gtS dc pa i j n j76 ((rpS dc pa ge dp i j n (0, lkC kp i j, mk, sq, tc) k).2.2.1) n).1)) = ((rpS dc pa ge dp i j n (0, lkC kp i j, mk, sq, tc) (k + 1)).1) from (congrArg (fun z => z.1) (rpS_s c76)).symm))
            have e9 : (if 0 < (gtS dc pa i j n j76 ((rpS dc pa ge dp i j n (0, lkC kp i j, mk, sq, tc) k).2.2.1) n).1 then (smS pa ge dp j n (gtS dc pa i j n j76 ((rpS dc pa ge dp i j n (0, lkC kp i j, mk, sq, tc) k).2.2.1) n).2 n).2 else (gtS dc pa i j n j76 ((rpS dc pa ge dp i j n (0, lkC kp i j, mk, sq, tc) k).2.2.1) n).2) = ((rpS dc pa ge dp i j n (0, lkC kp i j, mk, sq, tc) (k + 1)).2.2.1) := (congrArg (fun z => z.2.2.1) (rpS_s c76)).symm
            have hP := (congrArg (fun z9 => va_P D vwCl (wM ct g n dc pa va dl ge su z9 dp (if 0 < (gtS dc pa i j n j76 ((rpS dc pa ge dp i j n (0, lkC kp i j, mk, sq, tc) k).2.2.1) n).1 then va_up ((rpS dc pa ge dp i j n (0, lkC kp i j, mk, sq, tc) k).2.2.2.1) j (((rpS dc pa ge dp i j n (0, lkC kp i j, mk, sq, tc) k).2.2.2.1) j + nI 1) else ((rpS dc pa ge dp i j n (0, lkC kp i j, mk, sq, tc) k).2.2.2.1)) (if 0 < (gtS dc pa i j n j76 ((rpS dc pa ge dp i j n (0, lkC kp i j, mk, sq, tc) k).2.2.1) n).1 then va_up ((rpS dc pa ge dp i j n (0, lkC kp i j, mk, sq, tc) k).2.2.2.2) ((4 * j) + j76) (((rpS dc pa ge dp i j n (0, lkC kp i j, mk, sq, tc) k).2.2.2.1) j + nI 1) else ((rpS dc pa ge dp i j n (0, lkC kp i j, mk, sq, tc) k).2.2.2.2)) kp (gof true true true)) H) e9).mp hP
            have hD := (congrArg (fun z9 => va_D A (wM ct g n dc pa va dl ge su z9 dp (if 0 < (gtS dc pa i j n j76 ((rpS dc pa ge dp i j n (0, lkC kp i j, mk, sq, tc) k).2.2.1) n).1 then va_up ((rpS dc pa ge dp i j n (0, lkC kp i j, mk, sq, tc) k).2.2.2.1) j (((rpS dc pa ge dp i j n (0, lkC kp i j, mk, sq, tc) k).2.2.2.1) j + nI 1) else ((rpS dc pa ge dp i j n (0, lkC kp i j, mk, sq, tc) k).2.2.2.1)) (if 0 < (gtS dc pa i j n j76 ((rpS dc pa ge dp i j n (0, lkC kp i j, mk, sq, tc) k).2.2.1) n).1 then va_up ((rpS dc pa ge dp i j n (0, lkC kp i j, mk, sq, tc) k).2.2.2.2) ((4 * j) + j76) (((rpS dc pa ge dp i j n (0, lkC kp i j, mk, sq, tc) k).2.2.2.1) j + nI 1) else ((rpS dc pa ge dp i j n (0, lkC kp i j, mk, sq, tc) k).2.2.2.2)) kp (gof true true true))) e9).mp hD
            have e9 : (if 0 < (gtS dc pa i j n j76 ((rpS dc pa ge dp i j n (0, lkC kp i j, mk, sq, tc) k).2.2.1) n).1 then va_up ((rpS dc pa ge dp i j n (0, lkC kp i j, mk, sq, tc) k).2.2.2.1) j (((rpS dc pa ge dp i j n (0, lkC kp i j, mk, sq, tc) k).2.2.2.1) j + nI 1) else ((rpS dc pa ge dp i j n (0, lkC kp i j, mk, sq, tc) k).2.2.2.1)) = ((rpS dc pa ge dp i j n (0, lkC kp i j, mk, sq, tc) (k + 1)).2.2.2.1) := (congrArg (fun z => z.2.2.2.1) (rpS_s c76)).symm
            have hP := (congrArg (fun z9 => va_P D vwCl (wM ct g n dc pa va dl ge su ((rpS dc pa ge dp i j n (0, lkC kp i j, mk, sq, tc) (k + 1)).2.2.1) dp z9 (if 0 < (gtS dc pa i j n j76 ((rpS dc pa ge dp i j n (0, lkC kp i j, mk, sq, tc) k).2.2.1) n).1 then va_up ((rpS dc pa ge dp i j n (0, lkC kp i j, mk, sq, tc) k).2.2.2.2) ((4 * j) + j76) (((rpS dc pa ge dp i j n (0, lkC kp i j, mk, sq, tc) k).2.2.2.1) j + nI 1) else ((rpS dc pa ge dp i j n (0, lkC kp i j, mk, sq, tc) k).2.2.2.2)) kp (gof true true true)) H) e9).mp hP
            have hD := (congrArg (fun z9 => va_D A (wM ct g n dc pa va dl ge su ((rpS dc pa ge dp i j n (0, lkC kp i j, mk, sq, tc) (k + 1)).2.2.1) dp z9 (if 0 < (gtS dc pa i j n j76 ((rpS dc pa ge dp i j n (0, lkC kp i j, mk, sq, tc) k).2.2.1) n).1 then va_up ((rpS dc pa ge dp i j n (0, lkC kp i j, mk, sq, tc) k).2.2.2.2) ((4 * j) + j76) (((rpS dc pa ge dp i j n (0, lkC kp i j, mk, sq, tc) k).2.2.2.1) j + nI 1) else ((rpS dc pa ge dp i j n (0, lkC kp i j, mk, sq, tc) k).2.2.2.2)) kp (gof true true true))) e9).mp hD
            have e9 : (if 0 < (gtS dc pa i j n j76 ((rpS dc pa ge dp i j n (0, lkC kp i j, mk, sq, tc) k).2.2.1) n).1 then va_up ((rpS dc pa ge dp i j n (0, lkC kp i j, mk, sq, tc) k).2.2.2.2) ((4 * j) + j76) (((rpS dc pa ge dp i j n (0, lkC kp i j, mk, sq, tc) k).2.2.2.1) j + nI 1) else ((rpS dc pa ge dp i j n (0, lkC kp i j, mk, sq, tc) k).2.2.2.2)) = ((rpS dc pa ge dp i j n (0, lkC kp i j, mk, sq, tc) (k + 1)).2.2.2.2) := (congrArg (fun z => z.2.2.2.2) (rpS_s c76)).symm
            have hP := (congrArg (fun z9 => va_P D vwCl (wM ct g n dc pa va dl ge su ((rpS dc pa ge dp i j n (0, lkC kp i j, mk, sq, tc) (k + 1)).2.2.1) dp ((rpS dc pa ge dp i j n (0, lkC kp i j, mk, sq, tc) (k + 1)).2.2.2.1) z9 kp (gof true true true)) H) e9).mp hP
            have hD := (congrArg (fun z9 => va_D A (wM ct g n dc pa va dl ge su ((rpS dc pa ge dp i j n (0, lkC kp i j, mk, sq, tc) (k + 1)).2.2.1) dp ((rpS dc pa ge dp i j n (0, lkC kp i j, mk, sq, tc) (k + 1)).2.2.2.1) z9 kp (gof true true true))) e9).mp hD
            have hP : va_P D vwCl (wM ct g n dc pa va dl ge su ((rpS dc pa ge dp i j n (0, lkC kp i j, mk, sq, tc) (k + 1)).2.2.1) dp ((rpS dc pa ge dp i j n (0, lkC kp i j, mk, sq, tc) (k + 1)).2.2.2.1) ((rpS dc pa ge dp i j n (0, lkC kp i j, mk, sq, tc) (k + 1)).2.2.2.2) kp (gof true true true)) H := hP
            have hD : va_D A (wM ct g n dc pa va dl ge su ((rpS dc pa ge dp i j n (0, lkC kp i j, mk, sq, tc) (k + 1)).2.2.1) dp ((rpS dc pa ge dp i j n (0, lkC kp i j, mk, sq, tc) (k + 1)).2.2.2.1) ((rpS dc pa ge dp i j n (0, lkC kp i j, mk, sq, tc) (k + 1)).2.2.2.2) kp (gof true true true)) := hD
            exact ih62 (k + 1) (by first | assumption | omega) (by omega) H locs ls hP hD hS (lv_sub hl [0, 1, 2, 4, 5, 6, 7] rfl)
    have hl := lv_re (f := fun z9 => [(6, .int (nI 0)), (5, .int z9), (4, .int (nI 0)), (0, .ref (g 0)), (1, .int (nI i)), (2, .int (nI j)), (3, .int (nI lim))]) hl (show lkC kp i j = (rpS dc pa ge dp i j n (0, lkC kp i j, mk, sq, tc) 0).2.1 from rfl)
    have hl := lv_re (f := fun z9 => [(6, .int (nI 0)), (5, .int ((rpS dc pa ge dp i j n (0, lkC kp i j, mk, sq, tc) 0).2.1)), (4, .int z9), (0, .ref (g 0)), (1, .int (nI i)), (2, .int (nI j)), (3, .int (nI lim))]) hl (show nI 0 = nI ((rpS dc pa ge dp i j n (0, lkC kp i j, mk, sq, tc) 0).1) from congrArg nI (show 0 = ((rpS dc pa ge dp i j n (0, lkC kp i j, mk, sq, tc) 0).1) from rfl))
    have e9 : mk = ((rpS dc pa ge dp i j n (0, lkC kp i j, mk, sq, tc) 0).2.2.1) := rfl
    have hP := (congrArg (fun z9 => va_P D vwCl (wM ct g n dc pa va dl ge su z9 dp sq tc kp (gof true true true)) H) e9).mp hP
    have hD := (congrArg (fun z9 => va_D A (wM ct g n dc pa va dl ge su z9 dp sq tc kp (gof true true true))) e9).mp hD
    have e9 : sq = ((rpS dc pa ge dp i j n (0, lkC kp i j, mk, sq, tc) 0).2.2.2.1) := rfl
    have hP := (congrArg (fun z9 => va_P D vwCl (wM ct g n dc pa va dl ge su ((rpS dc pa ge dp i j n (0, lkC kp i j, mk, sq, tc) 0).2.2.1) dp z9 tc kp (gof true true true)) H) e9).mp hP
    have hD := (congrArg (fun z9 => va_D A (wM ct g n dc pa va dl ge su ((rpS dc pa ge dp i j n (0, lkC kp i j, mk, sq, tc) 0).2.2.1) dp z9 tc kp (gof true true true))) e9).mp hD
    have e9 : tc = ((rpS dc pa ge dp i j n (0, lkC kp i j, mk, sq, tc) 0).2.2.2.2) := rfl
    have hP := (congrArg (fun z9 => va_P D vwCl (wM ct g n dc pa va dl ge su ((rpS dc pa ge dp i j n (0, lkC kp i j, mk, sq, tc) 0).2.2.1) dp ((rpS dc pa ge dp i j n (0, lkC kp i j, mk, sq, tc) 0).2.2.2.1) z9 kp (gof true true true)) H) e9).mp hP
    have hD := (congrArg (fun z9 => va_D A (wM ct g n dc pa va dl ge su ((rpS dc pa ge dp i j n (0, lkC kp i j, mk, sq, tc) 0).2.2.1) dp ((rpS dc pa ge dp i j n (0, lkC kp i j, mk, sq, tc) 0).2.2.2.1) z9 kp (gof true true true))) e9).mp hD
    have hP : va_P D vwCl (wM ct g n dc pa va dl ge su ((rpS dc pa ge dp i j n (0, lkC kp i j, mk, sq, tc) 0).2.2.1) dp ((rpS dc pa ge dp i j n (0, lkC kp i j, mk, sq, tc) 0).2.2.2.1) ((rpS dc pa ge dp i j n (0, lkC kp i j, mk, sq, tc) 0).2.2.2.2) kp (gof true true true)) H := hP
    have hD : va_D A (wM ct g n dc pa va dl ge su ((rpS dc pa ge dp i j n (0, lkC kp i j, mk, sq, tc) 0).2.2.1) dp ((rpS dc pa ge dp i j n (0, lkC kp i j, mk, sq, tc) 0).2.2.2.1) ((rpS dc pa ge dp i j n (0, lkC kp i j, mk, sq, tc) 0).2.2.2.2) kp (gof true true true)) := hD
    exact key62 ((lim - 0) + 1) 0 (by first | assumption | omega) (Nat.lt_succ_self _) H locs ls hP hD hS (lv_sub hl [0, 1, 2, 3, 4, 5, 6] rfl)
set_option maxHeartbeats 8000000 in
set_option maxRecDepth 100000 in
theorem cX4_replicate_bad (l : Launch) (D : va_G) (ct : Nat → ClassId) (g : Nat → Nat) (n : Nat) (dc : Nat → Nat) (pa : Nat → Option Nat) (va : Nat → Int32) (dl : Nat → Bool) (ge : Nat → Nat) (su : Nat → Int32) (mk : Nat → Bool) (dp : Nat → Int32) (sq : Nat → Int32) (tc : Nat → Int32) (kp : Nat → Int32) (la : Int32) (p0 : Int32) (p1 : Int32) (p2 : Int32) (hbad : ((inn p0 (nI 0) (nI 2) && inn p1 (nI 0) (nI 2)) && ((inn p2 (nI 1) (nI 4) && decide (p0 ≠ p1)) && true)) = false) (sz : Nat) : Met l yX4_replicate wsX4_replicate ({ frames := 6, cells := 0, slots := 0, locals := 144 } : Room) (wrPc D ct [.ref (g 0), .int p0, .int p1, .int p2] (wM ct g n dc pa va dl ge su mk dp sq tc kp la) sz) (wqI D (nI 0) (wM ct g n dc pa va dl ge su mk dp sq tc kp (gof (inn p0 (nI 0) (nI 2) && inn p1 (nI 0) (nI 2)) (inn p2 (nI 1) (nI 4) && decide (p0 ≠ p1)) true)) (va_A (wM ct g n dc pa va dl ge su mk dp sq tc kp la) sz)) 0 0 (va_A (wM ct g n dc pa va dl ge su mk dp sq tc kp la) sz) := by
  refine Met.ofW (cc := cX4_replicate) (maxL := 8) (ret := (some .int)) (by decide) rfl ?_
  intro p e s m args below meth c s₁ B hml hv
  obtain ⟨rfl, hsz, hP, hK, hD0⟩ := hv
  have hx := B.exec
  have hb := B.bytes
  have hr := B.returns
  have hts := atoms_spec (ws := wsX4_replicate) B.pre
  have hown : s.vm.findClass RX4 = some m.cls := findClass_of_methodNamed B.named
  have hlocks := B.notSynchronized
  subst hsz
  have hD := hD0.self (sz := s.heap.size)
  generalize hAe : va_A (wM ct g n dc pa va dl ge su mk dp sq tc kp la) s.heap.size = A at hD ⊢
  have hA : ∀ q : Nat, s.heap.size ≤ q → A q := fun q h => by rw [← hAe]; exact Or.inr h
  have hS : va_S A s.heap s.heap [] := va_S.rf
  have hP : va_P D vwCl (wM ct g n dc pa va dl ge su mk dp sq tc kp la) s.heap := hP
  clear hAe hD0
  have hl := lv_entry ([.ref (g 0), .int p0, .int p1, .int p2]) (n := 8) (Nat.le_of_ble_eq_true rfl)
  rw [lg_entry_eq]
  generalize (lg_sl ([.ref (g 0), .int p0, .int p1, .int p2]) ++ List.replicate (8 - (lg_sl ([.ref (g 0), .int p0, .int p1, .int p2])).length) Slot.unset).toArray = ls at hl ⊢
  have hl : lv_has ls 8 [(0, .ref (g 0)), (1, .int p0), (2, .int p1), (3, .int p2)] := hl
  have hH0 : s.heap.size ≤ s.heap.size := Nat.le_refl _
  have jn20 : ∀ (H : Heap) (locs : List Loc) (ls : Array Slot), va_P D vwCl (wM ct g n dc pa va dl ge su mk dp sq tc kp la) H → va_D A (wM ct g n dc pa va dl ge su mk dp sq tc kp la) → va_S A s.heap H locs → lv_has ls 8 [(0, .ref (g 0)), (1, .int p0), (2, .int p1), (3, .int p2)] → W p l e ({ frames := 6, cells := 0, slots := 0, locals := 144 } : Room) s m ([.ref (g 0), .int p0, .int p1, .int p2] : List Value).toArray below meth c H locs 0 0 (MQ below (wqI D (nI 0) (wM ct g n dc pa va dl ge su mk dp sq tc kp (gof (inn p0 (nI 0) (nI 2) && inn p1 (nI 0) (nI 2)) (inn p2 (nI 1) (nI 4) && decide (p0 ≠ p1)) true)) A) ([.ref (g 0), .int p0, .int p1, .int p2] : List Value).toArray s 0 0 A) (F0 m 20 ls [.int (bI (inn p0 (nI 0) (nI 2) && inn p1 (nI 0) (nI 2))), .ref (g 0)]) := by
    intro H locs ls hP hD hS hl
    have jn39 : ∀ (H : Heap) (locs : List Loc) (ls : Array Slot), va_P D vwCl (wM ct g n dc pa va dl ge su mk dp sq tc kp la) H → va_D A (wM ct g n dc pa va dl ge su mk dp sq tc kp la) → va_S A s.heap H locs → lv_has ls 8 [(0, .ref (g 0)), (1, .int p0), (2, .int p1), (3, .int p2)] → W p l e ({ frames := 6, cells := 0, slots := 0, locals := 144 } : Room) s m ([.ref (g 0), .int p0, .int p1, .int p2] : List Value).toArray below meth c H locs 0 0 (MQ below (wqI D (nI 0) (wM ct g n dc pa va dl ge su mk dp sq tc kp (gof (inn p0 (nI 0) (nI 2) && inn p1 (nI 0) (nI 2)) (inn p2 (nI 1) (nI 4) && decide (p0 ≠ p1)) true)) A) ([.ref (g 0), .int p0, .int p1, .int p2] : List Value).toArray s 0 0 A) (F0 m 39 ls [.int (bI (inn p2 (nI 1) (nI 4) && decide (p0 ≠ p1))), .int (bI (inn p0 (nI 0) (nI 2) && inn p1 (nI 0) (nI 2))), .ref (g 0)]) := by
      intro H locs ls hP hD hS hl
      refine lv_iconst (v := nI 1) hx hb dX4_replicate_39 (by decide) ?_
      refine r_wVi (As := [.int (bI (inn p0 (nI 0) (nI 2) && inn p1 (nI 0) (nI 2))), .int (bI (inn p2 (nI 1) (nI 4) && decide (p0 ≠ p1))), .int (bI true)]) (rest := []) ⟨hx, hb, hml, hown, hts⟩ (cX4_goes_ok l D ct g n dc pa va dl ge su mk dp sq tc kp la (inn p0 (nI 0) (nI 2) && inn p1 (nI 0) (nI 2)) (inn p2 (nI 1) (nI 4) && decide (p0 ≠ p1)) true  H.size) (cwV 3 hts gX4_replicate_X4_goes rfl rfl rfl (by decide +kernel) ⟨Nat.le_of_ble_eq_true rfl, Nat.le_of_ble_eq_true rfl⟩) hK hP hD hS hA [0, 1, 2, 3, 4, 5, 6, 7, 8, 9, 10, 11] rfl rfl rfl 0 4 rfl rfl rfl hl.1 rfl (Nat.le_of_ble_eq_true rfl) dX4_replicate_40 ⟨Nat.le_of_ble_eq_true rfl, Nat.le_of_ble_eq_true rfl⟩ (fun H locs hP hD hS => ?_)
      have hP : va_P D vwCl (wM ct g n dc pa va dl ge su mk dp sq tc kp (gof (inn p0 (nI 0) (nI 2) && inn p1 (nI 0) (nI 2)) (inn p2 (nI 1) (nI 4) && decide (p0 ≠ p1)) true)) H := hP
      have hD : va_D A (wM ct g n dc pa va dl ge su mk dp sq tc kp (gof (inn p0 (nI 0) (nI 2) && inn p1 (nI 0) (nI 2)) (inn p2 (nI 1) (nI 4) && decide (p0 ≠ p1)) true)) := hD
      refine r_top (y := bI false) (congrArg bI (show ((inn p0 (nI 0) (nI 2) && inn p1 (nI 0) (nI 2)) && ((inn p2 (nI 1) (nI 4) && decide (p0 ≠ p1)) && true)) = false from hbad)) ?_
      refine r_if_neB (x := false) (tgt := 48) hx hb dX4_replicate_43 (by decide) (fun c43 => by cases c43) (fun c43 => ?_)
      refine lv_iconst (v := nI 0) hx hb dX4_replicate_46 (by decide) ?_
      exact W.iret hx hb hr (fun t ht hW => ⟨⟨_, (), rfl, rfl, by show va_P D vwCl _ t.heap; rw [ht]; exact hP⟩, hS.F ht⟩) hS.2.2 dX4_replicate_47
    refine lv_iload_n hx hb dX4_replicate_20 rfl (lv_at hl 3 rfl) ?_
    refine lv_iconst (v := nI 1) hx hb dX4_replicate_21 (by decide) ?_
    refine lv_iconst (v := nI 4) hx hb dX4_replicate_22 (by decide) ?_
    refine r_cS (As := [.int p2, .int (nI 1), .int (nI 4)]) (rest := [.int (bI (inn p0 (nI 0) (nI 2) && inn p1 (nI 0) (nI 2))), .ref (g 0)]) ⟨hx, hb, hml, hown, hts⟩ (cX4_in_ok l D ct p2 (nI 1) (nI 4) ) (va_cwS 3 hts gX4_replicate_X4_in rfl rfl rfl (by decide +kernel) ⟨Nat.le_of_ble_eq_true rfl, Nat.le_of_ble_eq_true rfl⟩) hK va_Pnil rfl hl.1 rfl (Nat.le_of_ble_eq_true rfl) dX4_replicate_23 ⟨Nat.le_of_ble_eq_true rfl, Nat.le_of_ble_eq_true rfl⟩ ?_
    refine r_if_eqB (x := inn p2 (nI 1) (nI 4)) (tgt := 38) hx hb dX4_replicate_26 (by decide) (fun c26 => ?_) (fun c26 => ?_)
    · refine lv_iconst (v := nI 0) hx hb dX4_replicate_38 (by decide) ?_
      refine r_top (y := bI (inn p2 (nI 1) (nI 4) && decide (p0 ≠ p1))) (congrArg bI (show false = (inn p2 (nI 1) (nI 4) && decide (p0 ≠ p1)) from by simp [c26])) ?_
      exact jn39 H locs ls hP hD hS (lv_sub hl [0, 1, 2, 3] rfl)
    · refine lv_iload_n hx hb dX4_replicate_29 rfl (lv_at hl 1 rfl) ?_
      refine lv_iload_n hx hb dX4_replicate_30 rfl (lv_at hl 2 rfl) ?_
      refine lv_icmp_eq (x := p0) (y := p1) (tgt := 38) hx hb dX4_replicate_31 (by decide) (fun c31 => ?_) (fun c31 => ?_)
      · refine lv_iconst (v := nI 0) hx hb dX4_replicate_38 (by decide) ?_
        refine r_top (y := bI (inn p2 (nI 1) (nI 4) && decide (p0 ≠ p1))) (congrArg bI (show false = (inn p2 (nI 1) (nI 4) && decide (p0 ≠ p1)) from by simp [c26, c31])) ?_
        exact jn39 H locs ls hP hD hS (lv_sub hl [0, 1, 2, 3] rfl)
      · refine lv_iconst (v := nI 1) hx hb dX4_replicate_34 (by decide) ?_
        refine lv_goto (tgt := 39) hx hb dX4_replicate_35 (by decide) ?_
        refine r_top (y := bI (inn p2 (nI 1) (nI 4) && decide (p0 ≠ p1))) (congrArg bI (show true = (inn p2 (nI 1) (nI 4) && decide (p0 ≠ p1)) from by simp [c26, c31])) ?_
        exact jn39 H locs ls hP hD hS (lv_sub hl [0, 1, 2, 3] rfl)
  refine lv_aload_n hx hb dX4_replicate_0 rfl (lv_at hl 0 rfl) ?_
  refine lv_iload_n hx hb dX4_replicate_1 rfl (lv_at hl 1 rfl) ?_
  refine r_cS (As := [.int p0]) (rest := [.ref (g 0)]) ⟨hx, hb, hml, hown, hts⟩ (cX4_isStore_ok l D ct p0 ) (va_cwS 1 hts gX4_replicate_X4_isStore rfl rfl rfl (by decide +kernel) ⟨Nat.le_of_ble_eq_true rfl, Nat.le_of_ble_eq_true rfl⟩) hK va_Pnil rfl hl.1 rfl (Nat.le_of_ble_eq_true rfl) dX4_replicate_2 ⟨Nat.le_of_ble_eq_true rfl, Nat.le_of_ble_eq_true rfl⟩ ?_
  refine r_if_eqB (x := inn p0 (nI 0) (nI 2)) (tgt := 19) hx hb dX4_replicate_5 (by decide) (fun c5 => ?_) (fun c5 => ?_)
  · refine lv_iconst (v := nI 0) hx hb dX4_replicate_19 (by decide) ?_
    refine r_top (y := bI (inn p0 (nI 0) (nI 2) && inn p1 (nI 0) (nI 2))) (congrArg bI (show false = (inn p0 (nI 0) (nI 2) && inn p1 (nI 0) (nI 2)) from by simp [c5])) ?_
    exact jn20 _ _ ls hP hD hS (lv_sub hl [0, 1, 2, 3] rfl)
  · refine lv_iload_n hx hb dX4_replicate_8 rfl (lv_at hl 2 rfl) ?_
    refine r_cS (As := [.int p1]) (rest := [.ref (g 0)]) ⟨hx, hb, hml, hown, hts⟩ (cX4_isStore_ok l D ct p1 ) (va_cwS 1 hts gX4_replicate_X4_isStore rfl rfl rfl (by decide +kernel) ⟨Nat.le_of_ble_eq_true rfl, Nat.le_of_ble_eq_true rfl⟩) hK va_Pnil rfl hl.1 rfl (Nat.le_of_ble_eq_true rfl) dX4_replicate_9 ⟨Nat.le_of_ble_eq_true rfl, Nat.le_of_ble_eq_true rfl⟩ ?_
    refine r_if_eqB (x := inn p1 (nI 0) (nI 2)) (tgt := 19) hx hb dX4_replicate_12 (by decide) (fun c12 => ?_) (fun c12 => ?_)
    · refine lv_iconst (v := nI 0) hx hb dX4_replicate_19 (by decide) ?_
      refine r_top (y := bI (inn p0 (nI 0) (nI 2) && inn p1 (nI 0) (nI 2))) (congrArg bI (show false = (inn p0 (nI 0) (nI 2) && inn p1 (nI 0) (nI 2)) from by simp [c5, c12])) ?_
      exact jn20 _ _ ls hP hD hS (lv_sub hl [0, 1, 2, 3] rfl)
    · refine lv_iconst (v := nI 1) hx hb dX4_replicate_15 (by decide) ?_
      refine lv_goto (tgt := 20) hx hb dX4_replicate_16 (by decide) ?_
      refine r_top (y := bI (inn p0 (nI 0) (nI 2) && inn p1 (nI 0) (nI 2))) (congrArg bI (show true = (inn p0 (nI 0) (nI 2) && inn p1 (nI 0) (nI 2)) from by simp [c5, c12])) ?_
      exact jn20 _ _ ls hP hD hS (lv_sub hl [0, 1, 2, 3] rfl)
