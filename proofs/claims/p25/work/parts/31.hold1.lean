set_option maxHeartbeats 8000000 in
set_option maxRecDepth 100000 in
theorem cX0_hasDescendantOf_ok (l : Launch) (D : va_G) (ct : Nat → ClassId) (h : Nat → Nat) (hd : Nat → Bool) (nl : Nat → Nat) (wi : Nat → Option Nat) (k : Nat) (hk : k < 150) (hnl : nl k ≤ 151) : Met l yX0_hasDescendantOf wsX0_hasDescendantOf ({ frames := 0, cells := 0, slots := 0, locals := 0 } : Room) (roPc D ct [.ref (h 0), .int (nI k)] (wH ct h hd nl wi)) (rqI (bI (hasD nl k))) 0 0 (fun _ => False) := by
  refine Met.ofW (cc := cX0_hasDescendantOf) (maxL := 2) (ret := (some .boolean)) (by decide) rfl ?_
  intro p e s m args below meth c s₁ B hml hv
  obtain ⟨rfl, hP, hK⟩ := hv
  have hx := B.exec
  have hb := B.bytes
  have hr := B.returns
  have hts := atoms_spec (ws := wsX0_hasDescendantOf) B.pre
  have hown : s.vm.findClass RX0 = some m.cls := findClass_of_methodNamed B.named
  have hlocks := B.notSynchronized
  have hl := lv_entry ([.ref (h 0), .int (nI k)]) (n := 2) (Nat.le_of_ble_eq_true rfl)
  rw [lg_entry_eq]
  generalize (lg_sl ([.ref (h 0), .int (nI k)]) ++ List.replicate (2 - (lg_sl ([.ref (h 0), .int (nI k)])).length) Slot.unset).toArray = ls at hl ⊢
  have hl : lv_has ls 2 [(0, .ref (h 0)), (1, .int (nI k))] := hl
  refine lv_aload_n hx hb dX0_hasDescendantOf_0 rfl (lv_at hl 0 rfl) ?_
  refine va_get (D := D) (ci := 0) (v := .ref (h 2)) (C := RX0) (T := TX0) (N := 3) hx hb hts (fun _ h => List.mem_cons_of_mem _ (List.mem_append_right _ h)) hown hK.1 hP 0 rfl rfl 1 (by decide) (hts (.fieldLink RX0 15 "RevisionStores$Holding" "nearestLeaf" "[I") (List.mem_of_getElem? (i := 1) rfl)) (fun _ h9 => h9) rfl dX0_hasDescendantOf_1 ?_
  refine lv_iload_n hx hb dX0_hasDescendantOf_4 rfl (lv_at hl 1 rfl) ?_
  refine r_iald (j := k) (v := nI (nl k)) hx hb hK.1 hP 2 0 rfl rfl (by omega) (by first | decide | omega) rfl dX0_hasDescendantOf_5 ?_
  refine lv_sipush (v := nI 151) hx hb dX0_hasDescendantOf_6 (by decide) ?_
  refine r_icmp_eqN hx hb (x := nl k) (y := 151) (by first | omega | decide) (by first | omega | decide) (tgt := 16) dX0_hasDescendantOf_9 (by decide) (fun c9 => ?_) (fun c9 => ?_)
  · refine lv_iconst (v := nI 0) hx hb dX0_hasDescendantOf_16 (by decide) ?_
    refine r_top (y := bI (hasD nl k)) (congrArg bI (show false = (hasD nl k) from by simp [hasD, bI, c9])) ?_
    exact W.zret hx hb hr (bI_narrow _) (fun t ht hW => ⟨_, rfl, rfl, ht⟩) (fun _ h => by cases h) dX0_hasDescendantOf_17
  · refine lv_iconst (v := nI 1) hx hb dX0_hasDescendantOf_12 (by decide) ?_
    refine lv_goto (tgt := 17) hx hb dX0_hasDescendantOf_13 (by decide) ?_
    refine r_top (y := bI (hasD nl k)) (congrArg bI (show true = (hasD nl k) from by simp [hasD, bI, c9])) ?_
    exact W.zret hx hb hr (bI_narrow _) (fun t ht hW => ⟨_, rfl, rfl, ht⟩) (fun _ h => by cases h) dX0_hasDescendantOf_17
set_option maxHeartbeats 8000000 in
set_option maxRecDepth 100000 in
theorem cX0_endsAt_ok (l : Launch) (D : va_G) (ct : Nat → ClassId) (h : Nat → Nat) (hd : Nat → Bool) (nl : Nat → Nat) (wi : Nat → Option Nat) (k : Nat) (hk : k < 150) (hnl : nl k ≤ 151) : Met l yX0_endsAt wsX0_endsAt ({ frames := 1, cells := 0, slots := 0, locals := 21 } : Room) (roPc D ct [.ref (h 0), .int (nI k)] (wH ct h hd nl wi)) (rqI (bI (ends hd nl k))) 0 0 (fun _ => False) := by
  refine Met.ofW (cc := cX0_endsAt) (maxL := 2) (ret := (some .boolean)) (by decide) rfl ?_
  intro p e s m args below meth c s₁ B hml hv
  obtain ⟨rfl, hP, hK⟩ := hv
  have hx := B.exec
  have hb := B.bytes
  have hr := B.returns
  have hts := atoms_spec (ws := wsX0_endsAt) B.pre
  have hown : s.vm.findClass RX0 = some m.cls := findClass_of_methodNamed B.named
  have hlocks := B.notSynchronized
  have hl := lv_entry ([.ref (h 0), .int (nI k)]) (n := 2) (Nat.le_of_ble_eq_true rfl)
  rw [lg_entry_eq]
  generalize (lg_sl ([.ref (h 0), .int (nI k)]) ++ List.replicate (2 - (lg_sl ([.ref (h 0), .int (nI k)])).length) Slot.unset).toArray = ls at hl ⊢
  have hl : lv_has ls 2 [(0, .ref (h 0)), (1, .int (nI k))] := hl
  refine lv_aload_n hx hb dX0_endsAt_0 rfl (lv_at hl 0 rfl) ?_
  refine va_get (D := D) (ci := 0) (v := .ref (h 1)) (C := RX0) (T := TX0) (N := 3) hx hb hts (fun _ h => List.mem_cons_of_mem _ (List.mem_append_right _ h)) hown hK.1 hP 0 rfl rfl 0 (by decide) (hts (.fieldLink RX0 9 "RevisionStores$Holding" "held" "[Z") (List.mem_of_getElem? (i := 1) rfl)) (fun _ h9 => h9) rfl dX0_endsAt_1 ?_
  refine lv_iload_n hx hb dX0_endsAt_4 rfl (lv_at hl 1 rfl) ?_
  refine r_zald (j := k) (v := bI (hd k)) hx hb hK.1 hP 1 1 rfl rfl (by omega) (by first | decide | omega) rfl dX0_endsAt_5 ?_
  refine r_if_eqB (x := hd k) (tgt := 21) hx hb dX0_endsAt_6 (by decide) (fun c6 => ?_) (fun c6 => ?_)
  · refine lv_iconst (v := nI 0) hx hb dX0_endsAt_21 (by decide) ?_
    refine r_top (y := bI (ends hd nl k)) (congrArg bI (show false = (ends hd nl k) from by simp [ends, bI, c6])) ?_
    exact W.zret hx hb hr (bI_narrow _) (fun t ht hW => ⟨_, rfl, rfl, ht⟩) (fun _ h => by cases h) dX0_endsAt_22
  · refine lv_aload_n hx hb dX0_endsAt_9 rfl (lv_at hl 0 rfl) ?_
    refine lv_iload_n hx hb dX0_endsAt_10 rfl (lv_at hl 1 rfl) ?_
    refine r_cV (As := [.int (nI k)]) (rest := []) ⟨hx, hb, hml, hown, hts⟩ (cX0_hasDescendantOf_ok l D ct h hd nl wi k (by first | assumption | omega) (by first | assumption | omega)) (cwV 1 hts gX0_endsAt_X0_hasDescendantOf rfl rfl rfl (by decide +kernel) ⟨Nat.le_of_ble_eq_true rfl, Nat.le_of_ble_eq_true rfl⟩) hK (hP.sub (ws' := wH ct h hd nl wi) [0, 1, 2, 3] rfl) 0 0 rfl rfl rfl hl.1 rfl (Nat.le_of_ble_eq_true rfl) dX0_endsAt_11 ⟨Nat.le_of_ble_eq_true rfl, Nat.le_of_ble_eq_true rfl⟩ ?_
    refine r_if_neB (x := hasD nl k) (tgt := 21) hx hb dX0_endsAt_14 (by decide) (fun c14 => ?_) (fun c14 => ?_)
    · refine lv_iconst (v := nI 0) hx hb dX0_endsAt_21 (by decide) ?_
      refine r_top (y := bI (ends hd nl k)) (congrArg bI (show false = (ends hd nl k) from by simp [ends, bI, c6, c14])) ?_
      exact W.zret hx hb hr (bI_narrow _) (fun t ht hW => ⟨_, rfl, rfl, ht⟩) (fun _ h => by cases h) dX0_endsAt_22
    · refine lv_iconst (v := nI 1) hx hb dX0_endsAt_17 (by decide) ?_
      refine lv_goto (tgt := 22) hx hb dX0_endsAt_18 (by decide) ?_
      refine r_top (y := bI (ends hd nl k)) (congrArg bI (show true = (ends hd nl k) from by simp [ends, bI, c6, c14])) ?_
      exact W.zret hx hb hr (bI_narrow _) (fun t ht hW => ⟨_, rfl, rfl, ht⟩) (fun _ h => by cases h) dX0_endsAt_22
set_option maxHeartbeats 8000000 in
set_option maxRecDepth 100000 in
theorem cX0_findLeaves_ok (l : Launch) (D : va_G) (ct : Nat → ClassId) (h : Nat → Nat) (hd : Nat → Bool) (nl : Nat → Nat) (wi : Nat → Option Nat) (a : Nat → Nat) (n : Nat) (dc : Nat → Nat) (pa : Nat → Option Nat) (va : Nat → Int32) (dl : Nat → Bool) (ge : Nat → Nat) (su : Nat → Int32) (hn : n ≤ 150) (hTg : ∀ k, ge k ≤ 150) (hTp : ∀ k j, k < n → pa k = some j → j < k) (sz : Nat) : Met l yX0_findLeaves wsX0_findLeaves ({ frames := 2, cells := 0, slots := 0, locals := 42 } : Room) (wrPc D ct [.ref (h 0), .ref (a 0)] (wH ct h hd nl wi ++ wT ct a n dc pa va dl ge su) sz) (wqV D (wH ct h hd (flS pa ge hd n n) wi ++ wT ct a n dc pa va dl ge su) (va_A (wH ct h hd nl wi ++ wT ct a n dc pa va dl ge su) sz)) 0 0 (va_A (wH ct h hd nl wi ++ wT ct a n dc pa va dl ge su) sz) := by
  refine Met.ofW (cc := cX0_findLeaves) (maxL := 5) (ret := none) (by decide) rfl ?_
  intro p e s m args below meth c s₁ B hml hv
  obtain ⟨rfl, hsz, hP, hK, hD0⟩ := hv
  have hx := B.exec
  have hb := B.bytes
  have hr := B.returns
  have hts := atoms_spec (ws := wsX0_findLeaves) B.pre
  have hown : s.vm.findClass RX0 = some m.cls := findClass_of_methodNamed B.named
  have hlocks := B.notSynchronized
  subst hsz
  have hD := hD0.self (sz := s.heap.size)
  generalize hAe : va_A (wH ct h hd nl wi ++ wT ct a n dc pa va dl ge su) s.heap.size = A at hD ⊢
  have hA : ∀ q : Nat, s.heap.size ≤ q → A q := fun q h => by rw [← hAe]; exact Or.inr h
  have hS : va_S A s.heap s.heap [] := va_S.rf
  have hP : va_P D vwCl (wH ct h hd nl wi ++ wT ct a n dc pa va dl ge su) s.heap := hP
  clear hAe hD0
  have hl := lv_entry ([.ref (h 0), .ref (a 0)]) (n := 5) (Nat.le_of_ble_eq_true rfl)
  rw [lg_entry_eq]
  generalize (lg_sl ([.ref (h 0), .ref (a 0)]) ++ List.replicate (5 - (lg_sl ([.ref (h 0), .ref (a 0)])).length) Slot.unset).toArray = ls at hl ⊢
  have hl : lv_has ls 5 [(0, .ref (h 0)), (1, .ref (a 0))] := hl
  have hH0 : s.heap.size ≤ s.heap.size := Nat.le_refl _
  refine lv_aload_n hx hb dX0_findLeaves_0 rfl (lv_at hl 0 rfl) ?_
  refine va_get (D := D) (ci := 0) (v := .ref (h 2)) (C := RX0) (T := TX0) (N := 3) hx hb hts (fun _ h => List.mem_cons_of_mem _ (List.mem_append_left _ (List.mem_append_right _ h))) hown hK.1 hP 0 rfl rfl 1 (by decide) (hts (.fieldLink RX0 15 "RevisionStores$Holding" "nearestLeaf" "[I") (List.mem_of_getElem? (i := 1) rfl)) (fun _ h9 => h9) rfl dX0_findLeaves_1 ?_
  refine lv_sipush (v := nI 151) hx hb dX0_findLeaves_4 (by decide) ?_
  refine r_wSv (As := [.ref (h 2), .int (nI 151)]) (rest := []) ⟨hx, hb, hml, hown, hts⟩ (cJ7_fill_53178_ok l D ct (h 2) 150 (fun q9 => nI (nl q9)) (nI 151) (fun _ => nI 151) (by decide) (fun _ _ => rfl) s.heap.size) (va_cwS 2 hts gX0_findLeaves_J7_fill_53178 rfl rfl rfl (by decide +kernel) ⟨Nat.le_of_ble_eq_true rfl, Nat.le_of_ble_eq_true rfl⟩) hK hP hD hS hA [2] rfl rfl rfl rfl hl.1 rfl (Nat.le_of_ble_eq_true rfl) dX0_findLeaves_7 ⟨Nat.le_of_ble_eq_true rfl, Nat.le_of_ble_eq_true rfl⟩ (fun H locs hP hD hS => ?_)
  have hP : va_P D vwCl (wH ct h hd (fun _ => 151) wi ++ wT ct a n dc pa va dl ge su) H := hP
  have hD : va_D A (wH ct h hd (fun _ => 151) wi ++ wT ct a n dc pa va dl ge su) := hD
  refine lv_aload_n hx hb dX0_findLeaves_10 rfl (lv_at hl 1 rfl) ?_
  refine va_getN (D := D) (ci := 2) (v := .int (nI n)) (C := RX2) (T := TX2) (N := 7) hx hb hts (fun _ h => List.mem_cons_of_mem _ (List.mem_append_right _ h)) hown hK.1 hP 4 rfl rfl 6 (by decide) (va_Nw.use rfl (hK.2 _ (List.mem_of_getElem? (i := 16) rfl))) (fun _ h9 => h9) rfl dX0_findLeaves_11 ?_
  refine lv_iconst (v := nI 1) hx hb dX0_findLeaves_14 (by decide) ?_
  refine lv_isub hx hb dX0_findLeaves_15 ?_
  refine r_top (y := eP (prd n)) (nI_prd2 _) ?_
  refine lv_istore_n (lv' := [(2, .int (eP (prd n))), (0, .ref (h 0)), (1, .ref (a 0))]) hx hb dX0_findLeaves_16 rfl hl (by decide) rfl (fun ls hl => ?_)
  have key17 : ∀ (d17 : Nat) (r : Nat) (w : Nat) (hrw : r + w = n), r < d17 → ∀ (H : Heap) (locs : List Loc) (ls : Array Slot), va_P D vwCl (wH ct h hd (flS pa ge hd n w) wi ++ wT ct a n dc pa va dl ge su) H → va_D A (wH ct h hd (flS pa ge hd n w) wi ++ wT ct a n dc pa va dl ge su) → va_S A s.heap H locs → lv_has ls 5 [(2, .int (eP (prd r))), (0, .ref (h 0)), (1, .ref (a 0))] → W p l e ({ frames := 2, cells := 0, slots := 0, locals := 42 } : Room) s m ([.ref (h 0), .ref (a 0)] : List Value).toArray below meth c H locs 0 0 (MQ below (wqV D (wH ct h hd (flS pa ge hd n n) wi ++ wT ct a n dc pa va dl ge su) A) ([.ref (h 0), .ref (a 0)] : List Value).toArray s 0 0 A) (F0 m 17 ls []) := by
    intro d17
    induction d17 with
    | zero => intro r w hrw h9; exact absurd h9 (Nat.not_lt_zero _)
    | succ d17 ih17 =>
      intro r w hrw hm17 H locs ls hP hD hS hl
      refine lv_iload_n hx hb dX0_findLeaves_17 rfl (lv_at hl 0 rfl) ?_
      refine r_if_ltP hx hb (x := prd r) (by intro j9 h9; first | (have := prd_lt h9; omega) | (have := hTp _ _ (by have := prd_lt c18; omega) h9; omega)) (tgt := 81) dX0_findLeaves_18 (by decide) (fun c18 => ?_) (fun j18 c18 => ?_)
      · have hl := lv_re (f := fun z9 => [(2, .int z9), (0, .ref (h 0)), (1, .ref (a 0))]) hl (show eP (prd r) = eP none from congrArg eP c18)
        have e9 : (flS pa ge hd n w) = (flS pa ge hd n n) := by have : r = 0 := (by cases r with | zero => rfl | succ q => exact absurd c18 (by simp [prd])); rw [show w = n by omega]
        have hP := (congrArg (fun z9 => va_P D vwCl (wH ct h hd z9 wi ++ wT ct a n dc pa va dl ge su) H) e9).mp hP
        have hP : va_P D vwCl (wH ct h hd (flS pa ge hd n n) wi ++ wT ct a n dc pa va dl ge su) H := hP
        exact W.vret hx hb hr (fun t ht hW => ⟨⟨(), rfl, trivial, by show va_P D vwCl _ t.heap; rw [ht]; exact hP⟩, hS.F ht⟩) hS.2.2 dX0_findLeaves_81
      · have hl := lv_re (f := fun z9 => [(2, .int z9), (0, .ref (h 0)), (1, .ref (a 0))]) hl (show eP (prd r) = nI j18 from congrArg eP c18)
        have e21 := prd_lt c18
        refine lv_aload_n hx hb dX0_findLeaves_21 rfl (lv_at hl 2 rfl) ?_
        refine va_getN (D := D) (ci := 2) (v := .ref (a 2)) (C := RX2) (T := TX2) (N := 7) hx hb hts (fun _ h => List.mem_cons_of_mem _ (List.mem_append_right _ h)) hown hK.1 hP 4 rfl rfl 1 (by decide) (va_Nw.use rfl (hK.2 _ (List.mem_of_getElem? (i := 17) rfl))) (fun _ h9 => h9) rfl dX0_findLeaves_22 ?_
        refine lv_iload_n hx hb dX0_findLeaves_25 rfl (lv_at hl 0 rfl) ?_
        refine r_iald (j := j18) (v := eP (pa j18)) hx hb hK.1 hP 6 0 rfl rfl (by omega) (by first | decide | omega) rfl dX0_findLeaves_26 ?_
        refine lv_istore_n (lv' := [(3, .int (eP (pa j18))), (2, .int (nI j18)), (0, .ref (h 0)), (1, .ref (a 0))]) hx hb dX0_findLeaves_27 rfl hl (by decide) rfl (fun ls hl => ?_)
        refine lv_iload_n hx hb dX0_findLeaves_28 rfl (lv_at hl 0 rfl) ?_
        refine lv_iconst (v := -1) hx hb dX0_findLeaves_29 (by decide) ?_
        refine r_icmp_eqP hx hb (x := pa j18) (by intro j9 h9; first | (have := prd_lt h9; omega) | (have := hTp _ _ (by have := prd_lt c18; omega) h9; omega)) (tgt := 75) dX0_findLeaves_30 (by decide) (fun c30 => ?_) (fun j30 c30 => ?_)
        · have hl := lv_re (f := fun z9 => [(3, .int z9), (2, .int (nI j18)), (0, .ref (h 0)), (1, .ref (a 0))]) hl (show eP (pa j18) = eP none from congrArg eP c30)
          refine lv_iinc (v := eP (prd j18)) (lv' := [(2, .int (eP (prd j18))), (3, .int (eP none)), (0, .ref (h 0)), (1, .ref (a 0))]) hx hb dX0_findLeaves_75 hl (k := 1) rfl (nI_prd _) (by decide) rfl (fun ls hl => ?_)
          refine lv_goto (tgt := 17) hx hb dX0_findLeaves_78 (by decide) ?_
          have e9 : (flS pa ge hd n w) = (flS pa ge hd n (w + 1)) := by first | exact flS_n (by have := prd_lt c18; omega) c30 | exact flS_s (by have := prd_lt c18; omega) c30 (by simp [c18, c30])
          have hP := (congrArg (fun z9 => va_P D vwCl (wH ct h hd z9 wi ++ wT ct a n dc pa va dl ge su) H) e9).mp hP
          have hD := (congrArg (fun z9 => va_D A (wH ct h hd z9 wi ++ wT ct a n dc pa va dl ge su)) e9).mp hD
          have hP : va_P D vwCl (wH ct h hd (flS pa ge hd n (w + 1)) wi ++ wT ct a n dc pa va dl ge su) H := hP
          have hD : va_D A (wH ct h hd (flS pa ge hd n (w + 1)) wi ++ wT ct a n dc pa va dl ge su) := hD
          exact ih17 j18 (w + 1) (by have := prd_lt c18; omega) (by have := prd_lt c18; omega) H locs ls hP hD hS (lv_sub hl [0, 2, 3] rfl)
        · have hl := lv_re (f := fun z9 => [(3, .int z9), (2, .int (nI j18)), (0, .ref (h 0)), (1, .ref (a 0))]) hl (show eP (pa j18) = nI j30 from congrArg eP c30)
          have e33 := hTp _ _ (by omega) c30
          refine lv_aload_n hx hb dX0_findLeaves_33 rfl (lv_at hl 2 rfl) ?_
          refine lv_iload_n hx hb dX0_findLeaves_34 rfl (lv_at hl 1 rfl) ?_
          refine r_cV (As := [.int (nI j18)]) (rest := []) ⟨hx, hb, hml, hown, hts⟩ (cX0_endsAt_ok l D ct h hd (flS pa ge hd n w) wi j18 (by omega) (flS_le w _)) (cwV 1 hts gX0_findLeaves_X0_endsAt rfl rfl rfl (by decide +kernel) ⟨Nat.le_of_ble_eq_true rfl, Nat.le_of_ble_eq_true rfl⟩) hK (hP.sub (ws' := wH ct h hd (flS pa ge hd n w) wi) [0, 1, 2, 3] rfl) 0 0 rfl rfl rfl hl.1 rfl (Nat.le_of_ble_eq_true rfl) dX0_findLeaves_35 ⟨Nat.le_of_ble_eq_true rfl, Nat.le_of_ble_eq_true rfl⟩ ?_
          refine r_if_eqB (x := ends hd (flS pa ge hd n w) j18) (tgt := 50) hx hb dX0_findLeaves_38 (by decide) (fun c38 => ?_) (fun c38 => ?_)
          · refine lv_aload_n hx hb dX0_findLeaves_50 rfl (lv_at hl 2 rfl) ?_
            refine va_get (D := D) (ci := 0) (v := .ref (h 2)) (C := RX0) (T := TX0) (N := 3) hx hb hts (fun _ h => List.mem_cons_of_mem _ (List.mem_append_left _ (List.mem_append_right _ h))) hown hK.1 hP 0 rfl rfl 1 (by decide) (hts (.fieldLink RX0 15 "RevisionStores$Holding" "nearestLeaf" "[I") (List.mem_of_getElem? (i := 1) rfl)) (fun _ h9 => h9) rfl dX0_findLeaves_51 ?_
            refine lv_iload_n hx hb dX0_findLeaves_54 rfl (lv_at hl 1 rfl) ?_
            refine r_iald (j := j18) (v := nI ((flS pa ge hd n w) j18)) hx hb hK.1 hP 2 0 rfl rfl (by omega) (by first | decide | omega) rfl dX0_findLeaves_55 ?_
            have f55 := flS_le (pa := pa) (ge := ge) (hd := hd) (n := n) w j18
            refine lv_istore (lv' := [(4, .int (nI ((flS pa ge hd n w) j18))), (3, .int (nI j30)), (2, .int (nI j18)), (0, .ref (h 0)), (1, .ref (a 0))]) hx hb dX0_findLeaves_56 hl (by decide) rfl (fun ls hl => ?_)
            refine lv_aload_n hx hb dX0_findLeaves_58 rfl (lv_at hl 3 rfl) ?_
            refine va_get (D := D) (ci := 0) (v := .ref (h 2)) (C := RX0) (T := TX0) (N := 3) hx hb hts (fun _ h => List.mem_cons_of_mem _ (List.mem_append_left _ (List.mem_append_right _ h))) hown hK.1 hP 0 rfl rfl 1 (by decide) (hts (.fieldLink RX0 15 "RevisionStores$Holding" "nearestLeaf" "[I") (List.mem_of_getElem? (i := 1) rfl)) (fun _ h9 => h9) rfl dX0_findLeaves_59 ?_
            refine lv_iload_n hx hb dX0_findLeaves_62 rfl (lv_at hl 1 rfl) ?_
            refine lv_aload_n hx hb dX0_findLeaves_63 rfl (lv_at hl 3 rfl) ?_
            refine va_get (D := D) (ci := 0) (v := .ref (h 2)) (C := RX0) (T := TX0) (N := 3) hx hb hts (fun _ h => List.mem_cons_of_mem _ (List.mem_append_left _ (List.mem_append_right _ h))) hown hK.1 hP 0 rfl rfl 1 (by decide) (hts (.fieldLink RX0 15 "RevisionStores$Holding" "nearestLeaf" "[I") (List.mem_of_getElem? (i := 1) rfl)) (fun _ h9 => h9) rfl dX0_findLeaves_64 ?_
            refine lv_iload_n hx hb dX0_findLeaves_67 rfl (lv_at hl 1 rfl) ?_
            refine r_iald (j := j30) (v := nI ((flS pa ge hd n w) j30)) hx hb hK.1 hP 2 0 rfl rfl (by omega) (by first | decide | omega) rfl dX0_findLeaves_68 ?_
            have f68 := flS_le (pa := pa) (ge := ge) (hd := hd) (n := n) w j30
            refine lv_iload hx hb dX0_findLeaves_69 (lv_at hl 0 rfl) ?_
            refine r_mminN hx hb (by rw [hml]; exact hl.1.symm) hown (hts (.methodLink RX0 51 Lib.Math.min.name) (List.mem_of_getElem? (i := 2) rfl)) (hts (.static Lib.Math.min.name) (List.mem_of_getElem? (i := 3) rfl)) (hts (.initialized "java/lang/Math") (List.mem_of_getElem? (i := 4) rfl)) (hts (.code Lib.Math.min.name Lib.Math.min.code 2 (some .int)) (List.mem_of_getElem? (i := 5) rfl)) (Nat.le_of_ble_eq_true rfl) (Nat.le_of_ble_eq_true rfl) (Nat.le_of_ble_eq_true rfl) (Nat.le_of_ble_eq_true rfl) (by first | omega | decide) (by first | omega | decide) dX0_findLeaves_71 ?_
            refine r_iast (j := j30) (x := (nI (min ((flS pa ge hd n w) j30) ((flS pa ge hd n w) j18)))) (f' := fun q9 => nI ((va_up (flS pa ge hd n w) j30 (min ((flS pa ge hd n w) j30) ((flS pa ge hd n w) j18))) q9)) hx hb hK.1 hP hD hS 2 0 rfl rfl (by omega) (by first | decide | omega) (up_n _ _ _) dX0_findLeaves_74 (fun H locs hP hD hS => ?_)
            have hP : va_P D vwCl (wH ct h hd (va_up (flS pa ge hd n w) j30 (min ((flS pa ge hd n w) j30) ((flS pa ge hd n w) j18))) wi ++ wT ct a n dc pa va dl ge su) H := hP
            have hD : va_D A (wH ct h hd (va_up (flS pa ge hd n w) j30 (min ((flS pa ge hd n w) j30) ((flS pa ge hd n w) j18))) wi ++ wT ct a n dc pa va dl ge su) := hD
            refine lv_iinc (v := eP (prd j18)) (lv' := [(2, .int (eP (prd j18))), (4, .int (nI ((flS pa ge hd n w) j18))), (3, .int (nI j30)), (0, .ref (h 0)), (1, .ref (a 0))]) hx hb dX0_findLeaves_75 hl (k := 2) rfl (nI_prd _) (by decide) rfl (fun ls hl => ?_)
            refine lv_goto (tgt := 17) hx hb dX0_findLeaves_78 (by decide) ?_
            have e9 : (va_up (flS pa ge hd n w) j30 (min ((flS pa ge hd n w) j30) ((flS pa ge hd n w) j18))) = (flS pa ge hd n (w + 1)) := by first | exact flS_n (by have := prd_lt c18; omega) c30 | exact flS_s (by have := prd_lt c18; omega) c30 (by simp [c18, c30, c38])
            have hP := (congrArg (fun z9 => va_P D vwCl (wH ct h hd z9 wi ++ wT ct a n dc pa va dl ge su) H) e9).mp hP
            have hD := (congrArg (fun z9 => va_D A (wH ct h hd z9 wi ++ wT ct a n dc pa va dl ge su)) e9).mp hD
            have hP : va_P D vwCl (wH ct h hd (flS pa ge hd n (w + 1)) wi ++ wT ct a n dc pa va dl ge su) H := hP
            have hD : va_D A (wH ct h hd (flS pa ge hd n (w + 1)) wi ++ wT ct a n dc pa va dl ge su) := hD
            exact ih17 j18 (w + 1) (by have := prd_lt c18; omega) (by have := prd_lt c18; omega) H locs ls hP hD hS (lv_sub hl [0, 3, 4] rfl)
          · refine lv_aload_n hx hb dX0_findLeaves_41 rfl (lv_at hl 3 rfl) ?_
            refine va_getN (D := D) (ci := 2) (v := .ref (a 5)) (C := RX2) (T := TX2) (N := 7) hx hb hts (fun _ h => List.mem_cons_of_mem _ (List.mem_append_right _ h)) hown hK.1 hP 4 rfl rfl 4 (by decide) (va_Nw.use rfl (hK.2 _ (List.mem_of_getElem? (i := 18) rfl))) (fun _ h9 => h9) rfl dX0_findLeaves_42 ?_
            refine lv_iload_n hx hb dX0_findLeaves_45 rfl (lv_at hl 1 rfl) ?_
            refine r_iald (j := j18) (v := nI (ge j18)) hx hb hK.1 hP 9 0 rfl rfl (by omega) (by first | decide | omega) rfl dX0_findLeaves_46 ?_
            have f46 := hTg j18
            refine lv_goto (tgt := 56) hx hb dX0_findLeaves_47 (by decide) ?_
            refine lv_istore (lv' := [(4, .int (nI (ge j18))), (3, .int (nI j30)), (2, .int (nI j18)), (0, .ref (h 0)), (1, .ref (a 0))]) hx hb dX0_findLeaves_56 hl (by decide) rfl (fun ls hl => ?_)
            refine lv_aload_n hx hb dX0_findLeaves_58 rfl (lv_at hl 3 rfl) ?_
            refine va_get (D := D) (ci := 0) (v := .ref (h 2)) (C := RX0) (T := TX0) (N := 3) hx hb hts (fun _ h => List.mem_cons_of_mem _ (List.mem_append_left _ (List.mem_append_right _ h))) hown hK.1 hP 0 rfl rfl 1 (by decide) (hts (.fieldLink RX0 15 "RevisionStores$Holding" "nearestLeaf" "[I") (List.mem_of_getElem? (i := 1) rfl)) (fun _ h9 => h9) rfl dX0_findLeaves_59 ?_
            refine lv_iload_n hx hb dX0_findLeaves_62 rfl (lv_at hl 1 rfl) ?_
            refine lv_aload_n hx hb dX0_findLeaves_63 rfl (lv_at hl 3 rfl) ?_
            refine va_get (D := D) (ci := 0) (v := .ref (h 2)) (C := RX0) (T := TX0) (N := 3) hx hb hts (fun _ h => List.mem_cons_of_mem _ (List.mem_append_left _ (List.mem_append_right _ h))) hown hK.1 hP 0 rfl rfl 1 (by decide) (hts (.fieldLink RX0 15 "RevisionStores$Holding" "nearestLeaf" "[I") (List.mem_of_getElem? (i := 1) rfl)) (fun _ h9 => h9) rfl dX0_findLeaves_64 ?_
            refine lv_iload_n hx hb dX0_findLeaves_67 rfl (lv_at hl 1 rfl) ?_
            refine r_iald (j := j30) (v := nI ((flS pa ge hd n w) j30)) hx hb hK.1 hP 2 0 rfl rfl (by omega) (by first | decide | omega) rfl dX0_findLeaves_68 ?_
            have f68 := flS_le (pa := pa) (ge := ge) (hd := hd) (n := n) w j30
            refine lv_iload hx hb dX0_findLeaves_69 (lv_at hl 0 rfl) ?_
            refine r_mminN hx hb (by rw [hml]; exact hl.1.symm) hown (hts (.methodLink RX0 51 Lib.Math.min.name) (List.mem_of_getElem? (i := 2) rfl)) (hts (.static Lib.Math.min.name) (List.mem_of_getElem? (i := 3) rfl)) (hts (.initialized "java/lang/Math") (List.mem_of_getElem? (i := 4) rfl)) (hts (.code Lib.Math.min.name Lib.Math.min.code 2 (some .int)) (List.mem_of_getElem? (i := 5) rfl)) (Nat.le_of_ble_eq_true rfl) (Nat.le_of_ble_eq_true rfl) (Nat.le_of_ble_eq_true rfl) (Nat.le_of_ble_eq_true rfl) (by first | omega | decide) (by first | omega | decide) dX0_findLeaves_71 ?_
            refine r_iast (j := j30) (x := (nI (min ((flS pa ge hd n w) j30) (ge j18)))) (f' := fun q9 => nI ((va_up (flS pa ge hd n w) j30 (min ((flS pa ge hd n w) j30) (ge j18))) q9)) hx hb hK.1 hP hD hS 2 0 rfl rfl (by omega) (by first | decide | omega) (up_n _ _ _) dX0_findLeaves_74 (fun H locs hP hD hS => ?_)
            have hP : va_P D vwCl (wH ct h hd (va_up (flS pa ge hd n w) j30 (min ((flS pa ge hd n w) j30) (ge j18))) wi ++ wT ct a n dc pa va dl ge su) H := hP
            have hD : va_D A (wH ct h hd (va_up (flS pa ge hd n w) j30 (min ((flS pa ge hd n w) j30) (ge j18))) wi ++ wT ct a n dc pa va dl ge su) := hD
            refine lv_iinc (v := eP (prd j18)) (lv' := [(2, .int (eP (prd j18))), (4, .int (nI (ge j18))), (3, .int (nI j30)), (0, .ref (h 0)), (1, .ref (a 0))]) hx hb dX0_findLeaves_75 hl (k := 2) rfl (nI_prd _) (by decide) rfl (fun ls hl => ?_)
            refine lv_goto (tgt := 17) hx hb dX0_findLeaves_78 (by decide) ?_
            have e9 : (va_up (flS pa ge hd n w) j30 (min ((flS pa ge hd n w) j30) (ge j18))) = (flS pa ge hd n (w + 1)) := by first | exact flS_n (by have := prd_lt c18; omega) c30 | exact flS_s (by have := prd_lt c18; omega) c30 (by simp [c18, c30, c38])
            have hP := (congrArg (fun z9 => va_P D vwCl (wH ct h hd z9 wi ++ wT ct a n dc pa va dl ge su) H) e9).mp hP
            have hD := (congrArg (fun z9 => va_D A (wH ct h hd z9 wi ++ wT ct a n dc pa va dl ge su)) e9).mp hD
            have hP : va_P D vwCl (wH ct h hd (flS pa ge hd n (w + 1)) wi ++ wT ct a n dc pa va dl ge su) H := hP
            have hD : va_D A (wH ct h hd (flS pa ge hd n (w + 1)) wi ++ wT ct a n dc pa va dl ge su) := hD
            exact ih17 j18 (w + 1) (by have := prd_lt c18; omega) (by have := prd_lt c18; omega) H locs ls hP hD hS (lv_sub hl [0, 3, 4] rfl)
  have e9 : (fun _ => 151) = (flS pa ge hd n 0) := rfl
  have hP := (congrArg (fun z9 => va_P D vwCl (wH ct h hd z9 wi ++ wT ct a n dc pa va dl ge su) H) e9).mp hP
  have hD := (congrArg (fun z9 => va_D A (wH ct h hd z9 wi ++ wT ct a n dc pa va dl ge su)) e9).mp hD
  have hP : va_P D vwCl (wH ct h hd (flS pa ge hd n 0) wi ++ wT ct a n dc pa va dl ge su) H := hP
  have hD : va_D A (wH ct h hd (flS pa ge hd n 0) wi ++ wT ct a n dc pa va dl ge su) := hD
  exact key17 (n + 1) n 0 (by first | assumption | omega) (Nat.lt_succ_self _) H locs ls hP hD hS (lv_sub hl [0, 1, 2] rfl)
set_option maxHeartbeats 8000000 in
set_option maxRecDepth 100000 in
theorem cX0_findWinners_ok (l : Launch) (D : va_G) (ct : Nat → ClassId) (h : Nat → Nat) (hd : Nat → Bool) (nl : Nat → Nat) (wi : Nat → Option Nat) (a : Nat → Nat) (n : Nat) (dc : Nat → Nat) (pa : Nat → Option Nat) (va : Nat → Int32) (dl : Nat → Bool) (ge : Nat → Nat) (su : Nat → Int32) (hn : n ≤ 150) (hTd : ∀ k, dc k < 4) (hTg : ∀ k, ge k ≤ 150) (hNl : ∀ k, nl k ≤ 151) (sz : Nat) : Met l yX0_findWinners wsX0_findWinners ({ frames := 2, cells := 0, slots := 0, locals := 42 } : Room) (wrPc D ct [.ref (h 0), .ref (a 0)] (wH ct h hd nl wi ++ wT ct a n dc pa va dl ge su) sz) (wqV D (wH ct h hd nl (fwS dc dl ge su (ends hd nl) n) ++ wT ct a n dc pa va dl ge su) (va_A (wH ct h hd nl wi ++ wT ct a n dc pa va dl ge su) sz)) 0 0 (va_A (wH ct h hd nl wi ++ wT ct a n dc pa va dl ge su) sz) := by
  refine Met.ofW (cc := cX0_findWinners) (maxL := 5) (ret := none) (by decide) rfl ?_
  intro p e s m args below meth c s₁ B hml hv
  obtain ⟨rfl, hsz, hP, hK, hD0⟩ := hv
  have hx := B.exec
  have hb := B.bytes
  have hr := B.returns
  have hts := atoms_spec (ws := wsX0_findWinners) B.pre
  have hown : s.vm.findClass RX0 = some m.cls := findClass_of_methodNamed B.named
  have hlocks := B.notSynchronized
  subst hsz
  have hD := hD0.self (sz := s.heap.size)
  generalize hAe : va_A (wH ct h hd nl wi ++ wT ct a n dc pa va dl ge su) s.heap.size = A at hD ⊢
  have hA : ∀ q : Nat, s.heap.size ≤ q → A q := fun q h => by rw [← hAe]; exact Or.inr h
  have hS : va_S A s.heap s.heap [] := va_S.rf
  have hP : va_P D vwCl (wH ct h hd nl wi ++ wT ct a n dc pa va dl ge su) s.heap := hP
  clear hAe hD0
  have hl := lv_entry ([.ref (h 0), .ref (a 0)]) (n := 5) (Nat.le_of_ble_eq_true rfl)
  rw [lg_entry_eq]
  generalize (lg_sl ([.ref (h 0), .ref (a 0)]) ++ List.replicate (5 - (lg_sl ([.ref (h 0), .ref (a 0)])).length) Slot.unset).toArray = ls at hl ⊢
  have hl : lv_has ls 5 [(0, .ref (h 0)), (1, .ref (a 0))] := hl
  have hH0 : s.heap.size ≤ s.heap.size := Nat.le_refl _
  refine lv_aload_n hx hb dX0_findWinners_0 rfl (lv_at hl 0 rfl) ?_
  refine va_get (D := D) (ci := 0) (v := .ref (h 3)) (C := RX0) (T := TX0) (N := 3) hx hb hts (fun _ h => List.mem_cons_of_mem _ (List.mem_append_left _ (List.mem_append_right _ h))) hown hK.1 hP 0 rfl rfl 2 (by decide) (hts (.fieldLink RX0 19 "RevisionStores$Holding" "winners" "[I") (List.mem_of_getElem? (i := 1) rfl)) (fun _ h9 => h9) rfl dX0_findWinners_1 ?_
  refine lv_iconst (v := -1) hx hb dX0_findWinners_4 (by decide) ?_
  refine r_wSv (As := [.ref (h 3), .int (eP none)]) (rest := []) ⟨hx, hb, hml, hown, hts⟩ (cJ7_fill_53178_ok l D ct (h 3) 4 (fun q9 => eP (wi q9)) (eP none) (fun _ => -1) (by decide) (fun _ _ => rfl) s.heap.size) (va_cwS 2 hts gX0_findWinners_J7_fill_53178 rfl rfl rfl (by decide +kernel) ⟨Nat.le_of_ble_eq_true rfl, Nat.le_of_ble_eq_true rfl⟩) hK hP hD hS hA [3] rfl rfl rfl rfl hl.1 rfl (Nat.le_of_ble_eq_true rfl) dX0_findWinners_5 ⟨Nat.le_of_ble_eq_true rfl, Nat.le_of_ble_eq_true rfl⟩ (fun H locs hP hD hS => ?_)
  have hP : va_P D vwCl (wH ct h hd nl (fun _ => none) ++ wT ct a n dc pa va dl ge su) H := hP
  have hD : va_D A (wH ct h hd nl (fun _ => none) ++ wT ct a n dc pa va dl ge su) := hD
  refine lv_iconst (v := nI 0) hx hb dX0_findWinners_8 (by decide) ?_
  refine lv_istore_n (lv' := [(2, .int (nI 0)), (0, .ref (h 0)), (1, .ref (a 0))]) hx hb dX0_findWinners_9 rfl hl (by decide) rfl (fun ls hl => ?_)
  have key10 : ∀ (d10 : Nat) (k : Nat) (hk : k ≤ n), n - k < d10 → ∀ (H : Heap) (locs : List Loc) (ls : Array Slot), va_P D vwCl (wH ct h hd nl (fwS dc dl ge su (ends hd nl) k) ++ wT ct a n dc pa va dl ge su) H → va_D A (wH ct h hd nl (fwS dc dl ge su (ends hd nl) k) ++ wT ct a n dc pa va dl ge su) → va_S A s.heap H locs → lv_has ls 5 [(2, .int (nI k)), (0, .ref (h 0)), (1, .ref (a 0))] → W p l e ({ frames := 2, cells := 0, slots := 0, locals := 42 } : Room) s m ([.ref (h 0), .ref (a 0)] : List Value).toArray below meth c H locs 0 0 (MQ below (wqV D (wH ct h hd nl (fwS dc dl ge su (ends hd nl) n) ++ wT ct a n dc pa va dl ge su) A) ([.ref (h 0), .ref (a 0)] : List Value).toArray s 0 0 A) (F0 m 10 ls []) := by
    intro d10
    induction d10 with
    | zero => intro k hk h9; exact absurd h9 (Nat.not_lt_zero _)
    | succ d10 ih10 =>
      intro k hk hm10 H locs ls hP hD hS hl
      refine lv_iload_n hx hb dX0_findWinners_10 rfl (lv_at hl 0 rfl) ?_
      refine lv_aload_n hx hb dX0_findWinners_11 rfl (lv_at hl 2 rfl) ?_
      refine va_getN (D := D) (ci := 2) (v := .int (nI n)) (C := RX2) (T := TX2) (N := 7) hx hb hts (fun _ h => List.mem_cons_of_mem _ (List.mem_append_right _ h)) hown hK.1 hP 4 rfl rfl 6 (by decide) (va_Nw.use rfl (hK.2 _ (List.mem_of_getElem? (i := 16) rfl))) (fun _ h9 => h9) rfl dX0_findWinners_12 ?_
      refine r_icmp_geN hx hb (x := k) (y := n) (by first | omega | decide) (by first | omega | decide) (tgt := 70) dX0_findWinners_15 (by decide) (fun c15 => ?_) (fun c15 => ?_)
      · have e9 : (fwS dc dl ge su (ends hd nl) k) = (fwS dc dl ge su (ends hd nl) n) := by rw [show k = n by omega]
        have hP := (congrArg (fun z9 => va_P D vwCl (wH ct h hd nl z9 ++ wT ct a n dc pa va dl ge su) H) e9).mp hP
        have hP : va_P D vwCl (wH ct h hd nl (fwS dc dl ge su (ends hd nl) n) ++ wT ct a n dc pa va dl ge su) H := hP
        exact W.vret hx hb hr (fun t ht hW => ⟨⟨(), rfl, trivial, by show va_P D vwCl _ t.heap; rw [ht]; exact hP⟩, hS.F ht⟩) hS.2.2 dX0_findWinners_70
      · refine lv_aload_n hx hb dX0_findWinners_18 rfl (lv_at hl 1 rfl) ?_
        refine lv_iload_n hx hb dX0_findWinners_19 rfl (lv_at hl 0 rfl) ?_
        refine r_cV (As := [.int (nI k)]) (rest := []) ⟨hx, hb, hml, hown, hts⟩ (cX0_endsAt_ok l D ct h hd nl (fwS dc dl ge su (ends hd nl) k) k (by first | assumption | omega) (hNl _)) (cwV 1 hts gX0_findWinners_X0_endsAt rfl rfl rfl (by decide +kernel) ⟨Nat.le_of_ble_eq_true rfl, Nat.le_of_ble_eq_true rfl⟩) hK (hP.sub (ws' := wH ct h hd nl (fwS dc dl ge su (ends hd nl) k)) [0, 1, 2, 3] rfl) 0 0 rfl rfl rfl hl.1 rfl (Nat.le_of_ble_eq_true rfl) dX0_findWinners_20 ⟨Nat.le_of_ble_eq_true rfl, Nat.le_of_ble_eq_true rfl⟩ ?_
        refine r_if_eqB (x := ends hd nl k) (tgt := 64) hx hb dX0_findWinners_23 (by decide) (fun c23 => ?_) (fun c23 => ?_)
        · refine lv_iinc (v := nI (k + 1)) (lv' := [(2, .int (nI (k + 1))), (0, .ref (h 0)), (1, .ref (a 0))]) hx hb dX0_findWinners_64 hl (k := 0) rfl (nI_1 _) (by decide) rfl (fun ls hl => ?_)
          refine lv_goto (tgt := 10) hx hb dX0_findWinners_67 (by decide) ?_
          have e9 : (fwS dc dl ge su (ends hd nl) k) = (fwS dc dl ge su (ends hd nl) (k + 1)) := by show _ = fwp dc dl ge su (ends hd nl) k (fwS dc dl ge su (ends hd nl) k); simp [fwp, c15, c23]
          have hP := (congrArg (fun z9 => va_P D vwCl (wH ct h hd nl z9 ++ wT ct a n dc pa va dl ge su) H) e9).mp hP
          have hD := (congrArg (fun z9 => va_D A (wH ct h hd nl z9 ++ wT ct a n dc pa va dl ge su)) e9).mp hD
          have hP : va_P D vwCl (wH ct h hd nl (fwS dc dl ge su (ends hd nl) (k + 1)) ++ wT ct a n dc pa va dl ge su) H := hP
          have hD : va_D A (wH ct h hd nl (fwS dc dl ge su (ends hd nl) (k + 1)) ++ wT ct a n dc pa va dl ge su) := hD
          exact ih10 (k + 1) (by first | assumption | omega) (by omega) H locs ls hP hD hS (lv_sub hl [0, 1, 2] rfl)
        · refine lv_aload_n hx hb dX0_findWinners_26 rfl (lv_at hl 2 rfl) ?_
          refine va_getN (D := D) (ci := 2) (v := .ref (a 1)) (C := RX2) (T := TX2) (N := 7) hx hb hts (fun _ h => List.mem_cons_of_mem _ (List.mem_append_right _ h)) hown hK.1 hP 4 rfl rfl 0 (by decide) (va_Nw.use rfl (hK.2 _ (List.mem_of_getElem? (i := 19) rfl))) (fun _ h9 => h9) rfl dX0_findWinners_27 ?_
          refine lv_iload_n hx hb dX0_findWinners_30 rfl (lv_at hl 0 rfl) ?_
          refine r_iald (j := k) (v := nI (dc k)) hx hb hK.1 hP 5 0 rfl rfl (by omega) (by first | decide | omega) rfl dX0_findWinners_31 ?_
          have f31 := hTd k
          refine lv_istore_n (lv' := [(3, .int (nI (dc k))), (2, .int (nI k)), (0, .ref (h 0)), (1, .ref (a 0))]) hx hb dX0_findWinners_32 rfl hl (by decide) rfl (fun ls hl => ?_)
          refine lv_aload_n hx hb dX0_findWinners_33 rfl (lv_at hl 2 rfl) ?_
          refine va_get (D := D) (ci := 0) (v := .ref (h 3)) (C := RX0) (T := TX0) (N := 3) hx hb hts (fun _ h => List.mem_cons_of_mem _ (List.mem_append_left _ (List.mem_append_right _ h))) hown hK.1 hP 0 rfl rfl 2 (by decide) (hts (.fieldLink RX0 19 "RevisionStores$Holding" "winners" "[I") (List.mem_of_getElem? (i := 1) rfl)) (fun _ h9 => h9) rfl dX0_findWinners_34 ?_
          refine lv_iload_n hx hb dX0_findWinners_37 rfl (lv_at hl 0 rfl) ?_
          refine r_iald (j := dc k) (v := eP ((fwS dc dl ge su (ends hd nl) k) (dc k))) hx hb hK.1 hP 3 0 rfl rfl (hTd _) (by first | decide | omega) rfl dX0_findWinners_38 ?_
          refine lv_istore (lv' := [(4, .int (eP ((fwS dc dl ge su (ends hd nl) k) (dc k)))), (3, .int (nI (dc k))), (2, .int (nI k)), (0, .ref (h 0)), (1, .ref (a 0))]) hx hb dX0_findWinners_39 hl (by decide) rfl (fun ls hl => ?_)
          refine lv_iload hx hb dX0_findWinners_41 (lv_at hl 0 rfl) ?_
          refine lv_iconst (v := -1) hx hb dX0_findWinners_43 (by decide) ?_
          refine r_icmp_eqP hx hb (x := (fwS dc dl ge su (ends hd nl) k) (dc k)) (by intro j9 h9; have := fwS_lt _ _ _ h9; omega) (tgt := 57) dX0_findWinners_44 (by decide) (fun c44 => ?_) (fun j44 c44 => ?_)
          · have hl := lv_re (f := fun z9 => [(4, .int z9), (3, .int (nI (dc k))), (2, .int (nI k)), (0, .ref (h 0)), (1, .ref (a 0))]) hl (show eP ((fwS dc dl ge su (ends hd nl) k) (dc k)) = eP none from congrArg eP c44)
            refine lv_aload_n hx hb dX0_findWinners_57 rfl (lv_at hl 3 rfl) ?_
            refine va_get (D := D) (ci := 0) (v := .ref (h 3)) (C := RX0) (T := TX0) (N := 3) hx hb hts (fun _ h => List.mem_cons_of_mem _ (List.mem_append_left _ (List.mem_append_right _ h))) hown hK.1 hP 0 rfl rfl 2 (by decide) (hts (.fieldLink RX0 19 "RevisionStores$Holding" "winners" "[I") (List.mem_of_getElem? (i := 1) rfl)) (fun _ h9 => h9) rfl dX0_findWinners_58 ?_
            refine lv_iload_n hx hb dX0_findWinners_61 rfl (lv_at hl 1 rfl) ?_
            refine lv_iload_n hx hb dX0_findWinners_62 rfl (lv_at hl 2 rfl) ?_
            refine r_iast (j := dc k) (x := (eP (some k))) (f' := fun q9 => eP ((va_up (fwS dc dl ge su (ends hd nl) k) (dc k) (some k)) q9)) hx hb hK.1 hP hD hS 3 0 rfl rfl (hTd _) (by first | decide | omega) (up_p _ _ _) dX0_findWinners_63 (fun H locs hP hD hS => ?_)
            have hP : va_P D vwCl (wH ct h hd nl (va_up (fwS dc dl ge su (ends hd nl) k) (dc k) (some k)) ++ wT ct a n dc pa va dl ge su) H := hP
            have hD : va_D A (wH ct h hd nl (va_up (fwS dc dl ge su (ends hd nl) k) (dc k) (some k)) ++ wT ct a n dc pa va dl ge su) := hD
            refine lv_iinc (v := nI (k + 1)) (lv' := [(2, .int (nI (k + 1))), (4, .int (eP none)), (3, .int (nI (dc k))), (0, .ref (h 0)), (1, .ref (a 0))]) hx hb dX0_findWinners_64 hl (k := 2) rfl (nI_1 _) (by decide) rfl (fun ls hl => ?_)
            refine lv_goto (tgt := 10) hx hb dX0_findWinners_67 (by decide) ?_
            have e9 : (va_up (fwS dc dl ge su (ends hd nl) k) (dc k) (some k)) = (fwS dc dl ge su (ends hd nl) (k + 1)) := by show _ = fwp dc dl ge su (ends hd nl) k (fwS dc dl ge su (ends hd nl) k); simp [fwp, c15, c23, c44]
            have hP := (congrArg (fun z9 => va_P D vwCl (wH ct h hd nl z9 ++ wT ct a n dc pa va dl ge su) H) e9).mp hP
            have hD := (congrArg (fun z9 => va_D A (wH ct h hd nl z9 ++ wT ct a n dc pa va dl ge su)) e9).mp hD
            have hP : va_P D vwCl (wH ct h hd nl (fwS dc dl ge su (ends hd nl) (k + 1)) ++ wT ct a n dc pa va dl ge su) H := hP
            have hD : va_D A (wH ct h hd nl (fwS dc dl ge su (ends hd nl) (k + 1)) ++ wT ct a n dc pa va dl ge su) := hD
            exact ih10 (k + 1) (by first | assumption | omega) (by omega) H locs ls hP hD hS (lv_sub hl [0, 3, 4] rfl)
          · have hl := lv_re (f := fun z9 => [(4, .int z9), (3, .int (nI (dc k))), (2, .int (nI k)), (0, .ref (h 0)), (1, .ref (a 0))]) hl (show eP ((fwS dc dl ge su (ends hd nl) k) (dc k)) = nI j44 from congrArg eP c44)
            have e47 := fwS_lt _ _ _ c44
            refine lv_aload_n hx hb dX0_findWinners_47 rfl (lv_at hl 4 rfl) ?_
            refine lv_iload_n hx hb dX0_findWinners_48 rfl (lv_at hl 2 rfl) ?_
            refine lv_iload hx hb dX0_findWinners_49 (lv_at hl 0 rfl) ?_
            refine r_cV (As := [.int (nI k), .int (nI j44)]) (rest := []) ⟨hx, hb, hml, hown, hts⟩ (cX2_isBetter_ok l D ct a n dc pa va dl ge su k j44 (by first | assumption | omega) (by first | assumption | omega) (by first | assumption | omega)) (cwV 2 hts gX0_findWinners_X2_isBetter rfl rfl rfl (by decide +kernel) ⟨Nat.le_of_ble_eq_true rfl, Nat.le_of_ble_eq_true rfl⟩) hK (hP.sub (ws' := wT ct a n dc pa va dl ge su) [4, 5, 6, 7, 8, 9, 10] rfl) 0 2 rfl rfl rfl hl.1 rfl (Nat.le_of_ble_eq_true rfl) dX0_findWinners_51 ⟨Nat.le_of_ble_eq_true rfl, Nat.le_of_ble_eq_true rfl⟩ ?_
            refine r_if_eqB (x := btr dl ge su k j44) (tgt := 64) hx hb dX0_findWinners_54 (by decide) (fun c54 => ?_) (fun c54 => ?_)
            · refine lv_iinc (v := nI (k + 1)) (lv' := [(2, .int (nI (k + 1))), (4, .int (nI j44)), (3, .int (nI (dc k))), (0, .ref (h 0)), (1, .ref (a 0))]) hx hb dX0_findWinners_64 hl (k := 2) rfl (nI_1 _) (by decide) rfl (fun ls hl => ?_)
              refine lv_goto (tgt := 10) hx hb dX0_findWinners_67 (by decide) ?_
              have e9 : (fwS dc dl ge su (ends hd nl) k) = (fwS dc dl ge su (ends hd nl) (k + 1)) := by show _ = fwp dc dl ge su (ends hd nl) k (fwS dc dl ge su (ends hd nl) k); simp [fwp, c15, c23, c44, c54]
              have hP := (congrArg (fun z9 => va_P D vwCl (wH ct h hd nl z9 ++ wT ct a n dc pa va dl ge su) H) e9).mp hP
              have hD := (congrArg (fun z9 => va_D A (wH ct h hd nl z9 ++ wT ct a n dc pa va dl ge su)) e9).mp hD
              have hP : va_P D vwCl (wH ct h hd nl (fwS dc dl ge su (ends hd nl) (k + 1)) ++ wT ct a n dc pa va dl ge su) H := hP
              have hD : va_D A (wH ct h hd nl (fwS dc dl ge su (ends hd nl) (k + 1)) ++ wT ct a n dc pa va dl ge su) := hD
              exact ih10 (k + 1) (by first | assumption | omega) (by omega) H locs ls hP hD hS (lv_sub hl [0, 3, 4] rfl)
            · refine lv_aload_n hx hb dX0_findWinners_57 rfl (lv_at hl 3 rfl) ?_
              refine va_get (D := D) (ci := 0) (v := .ref (h 3)) (C := RX0) (T := TX0) (N := 3) hx hb hts (fun _ h => List.mem_cons_of_mem _ (List.mem_append_left _ (List.mem_append_right _ h))) hown hK.1 hP 0 rfl rfl 2 (by decide) (hts (.fieldLink RX0 19 "RevisionStores$Holding" "winners" "[I") (List.mem_of_getElem? (i := 1) rfl)) (fun _ h9 => h9) rfl dX0_findWinners_58 ?_
              refine lv_iload_n hx hb dX0_findWinners_61 rfl (lv_at hl 1 rfl) ?_
              refine lv_iload_n hx hb dX0_findWinners_62 rfl (lv_at hl 2 rfl) ?_
              refine r_iast (j := dc k) (x := (eP (some k))) (f' := fun q9 => eP ((va_up (fwS dc dl ge su (ends hd nl) k) (dc k) (some k)) q9)) hx hb hK.1 hP hD hS 3 0 rfl rfl (hTd _) (by first | decide | omega) (up_p _ _ _) dX0_findWinners_63 (fun H locs hP hD hS => ?_)
              have hP : va_P D vwCl (wH ct h hd nl (va_up (fwS dc dl ge su (ends hd nl) k) (dc k) (some k)) ++ wT ct a n dc pa va dl ge su) H := hP
              have hD : va_D A (wH ct h hd nl (va_up (fwS dc dl ge su (ends hd nl) k) (dc k) (some k)) ++ wT ct a n dc pa va dl ge su) := hD
              refine lv_iinc (v := nI (k + 1)) (lv' := [(2, .int (nI (k + 1))), (4, .int (nI j44)), (3, .int (nI (dc k))), (0, .ref (h 0)), (1, .ref (a 0))]) hx hb dX0_findWinners_64 hl (k := 2) rfl (nI_1 _) (by decide) rfl (fun ls hl => ?_)
              refine lv_goto (tgt := 10) hx hb dX0_findWinners_67 (by decide) ?_
              have e9 : (va_up (fwS dc dl ge su (ends hd nl) k) (dc k) (some k)) = (fwS dc dl ge su (ends hd nl) (k + 1)) := by show _ = fwp dc dl ge su (ends hd nl) k (fwS dc dl ge su (ends hd nl) k); simp [fwp, c15, c23, c44, c54]
              have hP := (congrArg (fun z9 => va_P D vwCl (wH ct h hd nl z9 ++ wT ct a n dc pa va dl ge su) H) e9).mp hP
              have hD := (congrArg (fun z9 => va_D A (wH ct h hd nl z9 ++ wT ct a n dc pa va dl ge su)) e9).mp hD
              have hP : va_P D vwCl (wH ct h hd nl (fwS dc dl ge su (ends hd nl) (k + 1)) ++ wT ct a n dc pa va dl ge su) H := hP
              have hD : va_D A (wH ct h hd nl (fwS dc dl ge su (ends hd nl) (k + 1)) ++ wT ct a n dc pa va dl ge su) := hD
              exact ih10 (k + 1) (by first | assumption | omega) (by omega) H locs ls hP hD hS (lv_sub hl [0, 3, 4] rfl)
  have e9 : (fun _ => none) = (fwS dc dl ge su (ends hd nl) 0) := rfl
  have hP := (congrArg (fun z9 => va_P D vwCl (wH ct h hd nl z9 ++ wT ct a n dc pa va dl ge su) H) e9).mp hP
  have hD := (congrArg (fun z9 => va_D A (wH ct h hd nl z9 ++ wT ct a n dc pa va dl ge su)) e9).mp hD
  have hP : va_P D vwCl (wH ct h hd nl (fwS dc dl ge su (ends hd nl) 0) ++ wT ct a n dc pa va dl ge su) H := hP
  have hD : va_D A (wH ct h hd nl (fwS dc dl ge su (ends hd nl) 0) ++ wT ct a n dc pa va dl ge su) := hD
  exact key10 ((n - 0) + 1) 0 (by first | assumption | omega) (Nat.lt_succ_self _) H locs ls hP hD hS (lv_sub hl [0, 1, 2] rfl)
set_option maxHeartbeats 8000000 in
set_option maxRecDepth 100000 in
theorem cX0_survey_ok (l : Launch) (D : va_G) (ct : Nat → ClassId) (h : Nat → Nat) (hd : Nat → Bool) (nl : Nat → Nat) (wi : Nat → Option Nat) (a : Nat → Nat) (n : Nat) (dc : Nat → Nat) (pa : Nat → Option Nat) (va : Nat → Int32) (dl : Nat → Bool) (ge : Nat → Nat) (su : Nat → Int32) (hn : n ≤ 150) (hTd : ∀ k, dc k < 4) (hTg : ∀ k, ge k ≤ 150) (hTp : ∀ k j, k < n → pa k = some j → j < k) (sz : Nat) : Met l yX0_survey wsX0_survey ({ frames := 3, cells := 0, slots := 0, locals := 66 } : Room) (wrPc D ct [.ref (h 0), .ref (a 0)] (wH ct h hd nl wi ++ wT ct a n dc pa va dl ge su) sz) (wqV D (wH ct h hd (flS pa ge hd n n) (fwS dc dl ge su (ends hd (flS pa ge hd n n)) n) ++ wT ct a n dc pa va dl ge su) (va_A (wH ct h hd nl wi ++ wT ct a n dc pa va dl ge su) sz)) 0 0 (va_A (wH ct h hd nl wi ++ wT ct a n dc pa va dl ge su) sz) := by
  refine Met.ofW (cc := cX0_survey) (maxL := 2) (ret := none) (by decide) rfl ?_
  intro p e s m args below meth c s₁ B hml hv
  obtain ⟨rfl, hsz, hP, hK, hD0⟩ := hv
  have hx := B.exec
  have hb := B.bytes
  have hr := B.returns
  have hts := atoms_spec (ws := wsX0_survey) B.pre
  have hown : s.vm.findClass RX0 = some m.cls := findClass_of_methodNamed B.named
  have hlocks := B.notSynchronized
  subst hsz
  have hD := hD0.self (sz := s.heap.size)
  generalize hAe : va_A (wH ct h hd nl wi ++ wT ct a n dc pa va dl ge su) s.heap.size = A at hD ⊢
  have hA : ∀ q : Nat, s.heap.size ≤ q → A q := fun q h => by rw [← hAe]; exact Or.inr h
  have hS : va_S A s.heap s.heap [] := va_S.rf
  have hP : va_P D vwCl (wH ct h hd nl wi ++ wT ct a n dc pa va dl ge su) s.heap := hP
  clear hAe hD0
  have hl := lv_entry ([.ref (h 0), .ref (a 0)]) (n := 2) (Nat.le_of_ble_eq_true rfl)
  rw [lg_entry_eq]
  generalize (lg_sl ([.ref (h 0), .ref (a 0)]) ++ List.replicate (2 - (lg_sl ([.ref (h 0), .ref (a 0)])).length) Slot.unset).toArray = ls at hl ⊢
  have hl : lv_has ls 2 [(0, .ref (h 0)), (1, .ref (a 0))] := hl
  have hH0 : s.heap.size ≤ s.heap.size := Nat.le_refl _
  refine lv_aload_n hx hb dX0_survey_0 rfl (lv_at hl 0 rfl) ?_
  refine lv_aload_n hx hb dX0_survey_1 rfl (lv_at hl 1 rfl) ?_
  refine r_wVv (As := [.ref (a 0)]) (rest := []) ⟨hx, hb, hml, hown, hts⟩ (cX0_findLeaves_ok l D ct h hd nl wi a n dc pa va dl ge su (by first | assumption | omega) (by first | assumption | omega) (by first | assumption | omega) s.heap.size) (cwV 1 hts gX0_survey_X0_findLeaves rfl rfl rfl (by decide +kernel) ⟨Nat.le_of_ble_eq_true rfl, Nat.le_of_ble_eq_true rfl⟩) hK hP hD hS hA [0, 1, 2, 3, 4, 5, 6, 7, 8, 9, 10] rfl rfl rfl 0 0 rfl rfl rfl hl.1 rfl (Nat.le_of_ble_eq_true rfl) dX0_survey_2 ⟨Nat.le_of_ble_eq_true rfl, Nat.le_of_ble_eq_true rfl⟩ (fun H locs hP hD hS => ?_)
  have hP : va_P D vwCl (wH ct h hd (flS pa ge hd n n) wi ++ wT ct a n dc pa va dl ge su) H := hP
  have hD : va_D A (wH ct h hd (flS pa ge hd n n) wi ++ wT ct a n dc pa va dl ge su) := hD
  refine lv_aload_n hx hb dX0_survey_5 rfl (lv_at hl 0 rfl) ?_
  refine lv_aload_n hx hb dX0_survey_6 rfl (lv_at hl 1 rfl) ?_
  refine r_wVv (As := [.ref (a 0)]) (rest := []) ⟨hx, hb, hml, hown, hts⟩ (cX0_findWinners_ok l D ct h hd (flS pa ge hd n n) wi a n dc pa va dl ge su (by first | assumption | omega) (by first | assumption | omega) (by first | assumption | omega) (fun k => flS_le _ k) H.size) (cwV 1 hts gX0_survey_X0_findWinners rfl rfl rfl (by decide +kernel) ⟨Nat.le_of_ble_eq_true rfl, Nat.le_of_ble_eq_true rfl⟩) hK hP hD hS hA [0, 1, 2, 3, 4, 5, 6, 7, 8, 9, 10] rfl rfl rfl 0 0 rfl rfl rfl hl.1 rfl (Nat.le_of_ble_eq_true rfl) dX0_survey_7 ⟨Nat.le_of_ble_eq_true rfl, Nat.le_of_ble_eq_true rfl⟩ (fun H locs hP hD hS => ?_)
  have hP : va_P D vwCl (wH ct h hd (flS pa ge hd n n) (fwS dc dl ge su (ends hd (flS pa ge hd n n)) n) ++ wT ct a n dc pa va dl ge su) H := hP
  have hD : va_D A (wH ct h hd (flS pa ge hd n n) (fwS dc dl ge su (ends hd (flS pa ge hd n n)) n) ++ wT ct a n dc pa va dl ge su) := hD
  have hP : va_P D vwCl (wH ct h hd (flS pa ge hd n n) (fwS dc dl ge su (ends hd (flS pa ge hd n n)) n) ++ wT ct a n dc pa va dl ge su) H := hP
  exact W.vret hx hb hr (fun t ht hW => ⟨⟨(), rfl, trivial, by show va_P D vwCl _ t.heap; rw [ht]; exact hP⟩, hS.F ht⟩) hS.2.2 dX0_survey_10
