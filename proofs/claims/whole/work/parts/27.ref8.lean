set_option maxHeartbeats 8000000 in
set_option maxRecDepth 100000 in
theorem cX4_isAnywhere_ok (l : Launch) (D : va_G) (ct : Nat → ClassId) (g : Nat → Nat) (n : Nat) (dc : Nat → Nat) (pa : Nat → Option Nat) (va : Nat → Int32) (dl : Nat → Bool) (ge : Nat → Nat) (su : Nat → Int32) (mk : Nat → Bool) (dp : Nat → Int32) (sq : Nat → Int32) (tc : Nat → Int32) (kp : Nat → Int32) (la : Int32) (r : Nat) (hr9 : r < 150) : Met l yX4_isAnywhere wsX4_isAnywhere ({ frames := 0, cells := 0, slots := 0, locals := 0 } : Room) (roPc D ct [.ref (g 0), .int (nI r)] (wM ct g n dc pa va dl ge su mk dp sq tc kp la)) (rqI (bI (anw mk r))) 0 0 (fun _ => False) := by
  refine Met.ofW (cc := cX4_isAnywhere) (maxL := 2) (ret := (some .boolean)) (by decide) rfl ?_
  intro p e s m args below meth c s₁ B hml hv
  obtain ⟨rfl, hP, hK⟩ := hv
  have hx := B.exec
  have hb := B.bytes
  have hr := B.returns
  have hts := atoms_spec (ws := wsX4_isAnywhere) B.pre
  have hown : s.vm.findClass RX4 = some m.cls := findClass_of_methodNamed B.named
  have hlocks := B.notSynchronized
  have hl := lv_entry ([.ref (g 0), .int (nI r)]) (n := 2) (Nat.le_of_ble_eq_true rfl)
  rw [lg_entry_eq]
  generalize (lg_sl ([.ref (g 0), .int (nI r)]) ++ List.replicate (2 - (lg_sl ([.ref (g 0), .int (nI r)])).length) Slot.unset).toArray = ls at hl ⊢
  have hl : lv_has ls 2 [(0, .ref (g 0)), (1, .int (nI r))] := hl
  refine lv_aload_n hx hb dX4_isAnywhere_0 rfl (lv_at hl 0 rfl) ?_
  refine va_get (D := D) (ci := 4) (v := .ref (g 7)) (C := RX4) (T := TX4) (N := 13) hx hb hts (fun _ h => List.mem_cons_of_mem _ (List.mem_append_right _ h)) hown hK.1 hP 0 rfl rfl 7 (by decide) (hts (.fieldLink RX4 29 "RevisionStoresModel" "marks" "[Z") (List.mem_of_getElem? (i := 1) rfl)) (fun _ h9 => h9) rfl dX4_isAnywhere_1 ?_
  refine lv_iload_n hx hb dX4_isAnywhere_4 rfl (lv_at hl 1 rfl) ?_
  refine r_zald (j := r) (v := bI (mk r)) hx hb hK.1 hP 7 1 rfl rfl (by omega) (by first | decide | omega) rfl dX4_isAnywhere_5 ?_
  refine r_if_neB (x := mk r) (tgt := 35) hx hb dX4_isAnywhere_6 (by decide) (fun c6 => ?_) (fun c6 => ?_)
  · refine lv_iconst (v := nI 1) hx hb dX4_isAnywhere_35 (by decide) ?_
    refine lv_goto (tgt := 40) hx hb dX4_isAnywhere_36 (by decide) ?_
    refine r_top (y := bI (anw mk r)) (congrArg bI (show true = (anw mk r) from by simp [anw, c6])) ?_
    exact W.zret hx hb hr (bI_narrow _) (fun t ht hW => ⟨_, rfl, rfl, ht⟩) (fun _ h => by cases h) dX4_isAnywhere_40
  · refine lv_aload_n hx hb dX4_isAnywhere_9 rfl (lv_at hl 0 rfl) ?_
    refine va_get (D := D) (ci := 4) (v := .ref (g 7)) (C := RX4) (T := TX4) (N := 13) hx hb hts (fun _ h => List.mem_cons_of_mem _ (List.mem_append_right _ h)) hown hK.1 hP 0 rfl rfl 7 (by decide) (hts (.fieldLink RX4 29 "RevisionStoresModel" "marks" "[Z") (List.mem_of_getElem? (i := 1) rfl)) (fun _ h9 => h9) rfl dX4_isAnywhere_10 ?_
    refine lv_sipush (v := nI 150) hx hb dX4_isAnywhere_13 (by decide) ?_
    refine lv_iload_n hx hb dX4_isAnywhere_16 rfl (lv_at hl 1 rfl) ?_
    refine r_iaddN hx hb dX4_isAnywhere_17 ?_
    refine r_zald (j := 150 + r) (v := bI (mk (150 + r))) hx hb hK.1 hP 7 1 rfl rfl (by omega) (by first | decide | omega) rfl dX4_isAnywhere_18 ?_
    refine r_if_neB (x := mk (150 + r)) (tgt := 35) hx hb dX4_isAnywhere_19 (by decide) (fun c19 => ?_) (fun c19 => ?_)
    · refine lv_iconst (v := nI 1) hx hb dX4_isAnywhere_35 (by decide) ?_
      refine lv_goto (tgt := 40) hx hb dX4_isAnywhere_36 (by decide) ?_
      refine r_top (y := bI (anw mk r)) (congrArg bI (show true = (anw mk r) from by simp [anw, c6, c19])) ?_
      exact W.zret hx hb hr (bI_narrow _) (fun t ht hW => ⟨_, rfl, rfl, ht⟩) (fun _ h => by cases h) dX4_isAnywhere_40
    · refine lv_aload_n hx hb dX4_isAnywhere_22 rfl (lv_at hl 0 rfl) ?_
      refine va_get (D := D) (ci := 4) (v := .ref (g 7)) (C := RX4) (T := TX4) (N := 13) hx hb hts (fun _ h => List.mem_cons_of_mem _ (List.mem_append_right _ h)) hown hK.1 hP 0 rfl rfl 7 (by decide) (hts (.fieldLink RX4 29 "RevisionStoresModel" "marks" "[Z") (List.mem_of_getElem? (i := 1) rfl)) (fun _ h9 => h9) rfl dX4_isAnywhere_23 ?_
      refine lv_sipush (v := nI 300) hx hb dX4_isAnywhere_26 (by decide) ?_
      refine lv_iload_n hx hb dX4_isAnywhere_29 rfl (lv_at hl 1 rfl) ?_
      refine r_iaddN hx hb dX4_isAnywhere_30 ?_
      refine r_zald (j := 300 + r) (v := bI (mk (300 + r))) hx hb hK.1 hP 7 1 rfl rfl (by omega) (by first | decide | omega) rfl dX4_isAnywhere_31 ?_
      refine r_if_eqB (x := mk (300 + r)) (tgt := 39) hx hb dX4_isAnywhere_32 (by decide) (fun c32 => ?_) (fun c32 => ?_)
      · refine lv_iconst (v := nI 0) hx hb dX4_isAnywhere_39 (by decide) ?_
        refine r_top (y := bI (anw mk r)) (congrArg bI (show false = (anw mk r) from by simp [anw, c6, c19, c32])) ?_
        exact W.zret hx hb hr (bI_narrow _) (fun t ht hW => ⟨_, rfl, rfl, ht⟩) (fun _ h => by cases h) dX4_isAnywhere_40
      · refine lv_iconst (v := nI 1) hx hb dX4_isAnywhere_35 (by decide) ?_
        refine lv_goto (tgt := 40) hx hb dX4_isAnywhere_36 (by decide) ?_
        refine r_top (y := bI (anw mk r)) (congrArg bI (show true = (anw mk r) from by simp [anw, c6, c19, c32])) ?_
        exact W.zret hx hb hr (bI_narrow _) (fun t ht hW => ⟨_, rfl, rfl, ht⟩) (fun _ h => by cases h) dX4_isAnywhere_40
set_option maxHeartbeats 8000000 in
set_option maxRecDepth 100000 in
theorem cX4_winnerOfAll_ok (l : Launch) (D : va_G) (ct : Nat → ClassId) (g : Nat → Nat) (n : Nat) (dc : Nat → Nat) (pa : Nat → Option Nat) (va : Nat → Int32) (dl : Nat → Bool) (ge : Nat → Nat) (su : Nat → Int32) (mk : Nat → Bool) (dp : Nat → Int32) (sq : Nat → Int32) (tc : Nat → Int32) (kp : Nat → Int32) (la : Int32) (d : Nat) (hn : n ≤ 150) (hTd : ∀ k, dc k < 4) (hTg : ∀ k, ge k ≤ 150) (hTp : ∀ k j, k < n → pa k = some j → j < k) (hd4 : d < 4) (sz : Nat) : Met l yX4_winnerOfAll wsX4_winnerOfAll ({ frames := 2, cells := 0, slots := 0, locals := 47 } : Room) (wrPc D ct [.ref (g 0), .int (nI d)] (wM ct g n dc pa va dl ge su mk dp sq tc kp la) sz) (wqI D (eP (bsS dc dl ge su (woL pa mk n) d n)) (wM ct g n dc pa va dl ge su mk dp sq tc kp (nI 0)) (va_A (wM ct g n dc pa va dl ge su mk dp sq tc kp la) sz)) 0 0 (va_A (wM ct g n dc pa va dl ge su mk dp sq tc kp la) sz) := by
  refine Met.ofW (cc := cX4_winnerOfAll) (maxL := 6) (ret := (some .int)) (by decide) rfl ?_
  intro p e s m args below meth c s₁ B hml hv
  obtain ⟨rfl, hsz, hP, hK, hD0⟩ := hv
  have hx := B.exec
  have hb := B.bytes
  have hr := B.returns
  have hts := atoms_spec (ws := wsX4_winnerOfAll) B.pre
  have hown : s.vm.findClass RX4 = some m.cls := findClass_of_methodNamed B.named
  have hlocks := B.notSynchronized
  subst hsz
  have hD := hD0.self (sz := s.heap.size)
  generalize hAe : va_A (wM ct g n dc pa va dl ge su mk dp sq tc kp la) s.heap.size = A at hD ⊢
  have hA : ∀ q : Nat, s.heap.size ≤ q → A q := fun q h => by rw [← hAe]; exact Or.inr h
  have hS : va_S A s.heap s.heap [] := va_S.rf
  have hP : va_P D vwCl (wM ct g n dc pa va dl ge su mk dp sq tc kp la) s.heap := hP
  clear hAe hD0
  have hl := lv_entry ([.ref (g 0), .int (nI d)]) (n := 6) (Nat.le_of_ble_eq_true rfl)
  rw [lg_entry_eq]
  generalize (lg_sl ([.ref (g 0), .int (nI d)]) ++ List.replicate (6 - (lg_sl ([.ref (g 0), .int (nI d)])).length) Slot.unset).toArray = ls at hl ⊢
  have hl : lv_has ls 6 [(0, .ref (g 0)), (1, .int (nI d))] := hl
  have hH0 : s.heap.size ≤ s.heap.size := Nat.le_refl _
  refine lv_aload_n hx hb dX4_winnerOfAll_0 rfl (lv_at hl 0 rfl) ?_
  refine lv_iload_n hx hb dX4_winnerOfAll_1 rfl (lv_at hl 1 rfl) ?_
  refine r_cS (As := [.int (nI d)]) (rest := [.ref (g 0)]) ⟨hx, hb, hml, hown, hts⟩ (cX4_isDocument_ok l D ct (nI d) ) (va_cwS 1 hts gX4_winnerOfAll_X4_isDocument rfl rfl rfl (by decide +kernel) ⟨Nat.le_of_ble_eq_true rfl, Nat.le_of_ble_eq_true rfl⟩) hK va_Pnil rfl hl.1 rfl (Nat.le_of_ble_eq_true rfl) dX4_winnerOfAll_2 ⟨Nat.le_of_ble_eq_true rfl, Nat.le_of_ble_eq_true rfl⟩ ?_
  refine r_top (y := bI true) (congrArg bI (show (inn (nI d) (nI 0) (nI 3)) = true from inn_t (by omega) (by decide))) ?_
  refine lv_iconst (v := nI 1) hx hb dX4_winnerOfAll_5 (by decide) ?_
  refine lv_iconst (v := nI 1) hx hb dX4_winnerOfAll_6 (by decide) ?_
  refine r_wVi (As := [.int (bI true), .int (bI true), .int (bI true)]) (rest := []) ⟨hx, hb, hml, hown, hts⟩ (cX4_goes_ok l D ct g n dc pa va dl ge su mk dp sq tc kp la true true true  s.heap.size) (cwV 3 hts gX4_winnerOfAll_X4_goes rfl rfl rfl (by decide +kernel) ⟨Nat.le_of_ble_eq_true rfl, Nat.le_of_ble_eq_true rfl⟩) hK hP hD hS hA [0, 1, 2, 3, 4, 5, 6, 7, 8, 9, 10, 11] rfl rfl rfl 0 4 rfl rfl rfl hl.1 rfl (Nat.le_of_ble_eq_true rfl) dX4_winnerOfAll_7 ⟨Nat.le_of_ble_eq_true rfl, Nat.le_of_ble_eq_true rfl⟩ (fun H locs hP hD hS => ?_)
  have hP : va_P D vwCl (wM ct g n dc pa va dl ge su mk dp sq tc kp (gof true true true)) H := hP
  have hD : va_D A (wM ct g n dc pa va dl ge su mk dp sq tc kp (gof true true true)) := hD
  refine r_top (y := bI true) (congrArg bI (show (true && (true && true)) = true from rfl)) ?_
  refine r_if_neB (x := true) (tgt := 15) hx hb dX4_winnerOfAll_10 (by decide) (fun c10 => ?_) (fun c10 => by cases c10)
  refine lv_iconst (v := -1) hx hb dX4_winnerOfAll_15 (by decide) ?_
  refine lv_istore_n (lv' := [(2, .int (eP none)), (0, .ref (g 0)), (1, .int (nI d))]) hx hb dX4_winnerOfAll_16 rfl hl (by decide) rfl (fun ls hl => ?_)
  refine lv_iconst (v := nI 0) hx hb dX4_winnerOfAll_17 (by decide) ?_
  refine lv_istore_n (lv' := [(3, .int (nI 0)), (2, .int (eP none)), (0, .ref (g 0)), (1, .int (nI d))]) hx hb dX4_winnerOfAll_18 rfl hl (by decide) rfl (fun ls hl => ?_)
  have key19 : ∀ (d19 : Nat) (k : Nat) (hk : k ≤ n), n - k < d19 → ∀ (H : Heap) (locs : List Loc) (ls : Array Slot), va_P D vwCl (wM ct g n dc pa va dl ge su mk dp sq tc kp (gof true true true)) H → va_D A (wM ct g n dc pa va dl ge su mk dp sq tc kp (gof true true true)) → va_S A s.heap H locs → lv_has ls 6 [(3, .int (nI k)), (2, .int (eP (bsS dc dl ge su (woL pa mk n) d k))), (0, .ref (g 0)), (1, .int (nI d))] → W p l e ({ frames := 2, cells := 0, slots := 0, locals := 47 } : Room) s m ([.ref (g 0), .int (nI d)] : List Value).toArray below meth c H locs 0 0 (MQ below (wqI D (eP (bsS dc dl ge su (woL pa mk n) d n)) (wM ct g n dc pa va dl ge su mk dp sq tc kp (nI 0)) A) ([.ref (g 0), .int (nI d)] : List Value).toArray s 0 0 A) (F0 m 19 ls []) := by
    intro d19
    induction d19 with
    | zero => intro k hk h9; exact absurd h9 (Nat.not_lt_zero _)
    | succ d19 ih19 =>
      intro k hk hm19 H locs ls hP hD hS hl
      refine lv_iload_n hx hb dX4_winnerOfAll_19 rfl (lv_at hl 0 rfl) ?_
      refine lv_aload_n hx hb dX4_winnerOfAll_20 rfl (lv_at hl 2 rfl) ?_
      refine va_get (D := D) (ci := 4) (v := .int (nI n)) (C := RX4) (T := TX4) (N := 13) hx hb hts (fun _ h => List.mem_cons_of_mem _ (List.mem_append_right _ h)) hown hK.1 hP 0 rfl rfl 6 (by decide) (hts (.fieldLink RX4 52 "RevisionStoresModel" "revisions" "I") (List.mem_of_getElem? (i := 1) rfl)) (fun _ h9 => h9) rfl dX4_winnerOfAll_21 ?_
      refine r_icmp_geN hx hb (x := k) (y := n) (by first | omega | decide) (by first | omega | decide) (tgt := 122) dX4_winnerOfAll_24 (by decide) (fun c24 => ?_) (fun c24 => ?_)
      · refine lv_iload_n hx hb dX4_winnerOfAll_122 rfl (lv_at hl 1 rfl) ?_
        refine r_top (y := eP (bsS dc dl ge su (woL pa mk n) d n)) (congrArg eP (show (bsS dc dl ge su (woL pa mk n) d k) = (bsS dc dl ge su (woL pa mk n) d n) from by rw [show k = n by omega])) ?_
        have e9 : (gof true true true) = (nI 0) := rfl
        have hP := (congrArg (fun z9 => va_P D vwCl (wM ct g n dc pa va dl ge su mk dp sq tc kp z9) H) e9).mp hP
        have hP : va_P D vwCl (wM ct g n dc pa va dl ge su mk dp sq tc kp (nI 0)) H := hP
        exact W.iret hx hb hr (fun t ht hW => ⟨⟨_, (), rfl, rfl, by show va_P D vwCl _ t.heap; rw [ht]; exact hP⟩, hS.F ht⟩) hS.2.2 dX4_winnerOfAll_123
      · have jn59 : ∀ (H : Heap) (locs : List Loc) (ls : Array Slot), va_P D vwCl (wM ct g n dc pa va dl ge su mk dp sq tc kp (gof true true true)) H → va_D A (wM ct g n dc pa va dl ge su mk dp sq tc kp (gof true true true)) → va_S A s.heap H locs → lv_has ls 6 [(3, .int (nI k)), (2, .int (eP (bsS dc dl ge su (woL pa mk n) d k))), (0, .ref (g 0)), (1, .int (nI d))] → W p l e ({ frames := 2, cells := 0, slots := 0, locals := 47 } : Room) s m ([.ref (g 0), .int (nI d)] : List Value).toArray below meth c H locs 0 0 (MQ below (wqI D (eP (bsS dc dl ge su (woL pa mk n) d n)) (wM ct g n dc pa va dl ge su mk dp sq tc kp (nI 0)) A) ([.ref (g 0), .int (nI d)] : List Value).toArray s 0 0 A) (F0 m 59 ls [.int (bI (any (hsP pa mk 0 k) n || (any (hsP pa mk 1 k) n || any (hsP pa mk 2 k) n)))]) := by
          intro H locs ls hP hD hS hl
          refine lv_istore (lv' := [(4, .int (bI (any (hsP pa mk 0 k) n || (any (hsP pa mk 1 k) n || any (hsP pa mk 2 k) n)))), (3, .int (nI k)), (2, .int (eP (bsS dc dl ge su (woL pa mk n) d k))), (0, .ref (g 0)), (1, .int (nI d))]) hx hb dX4_winnerOfAll_59 hl (by decide) rfl (fun ls hl => ?_)
          refine lv_aload_n hx hb dX4_winnerOfAll_61 rfl (lv_at hl 3 rfl) ?_
          refine va_get (D := D) (ci := 4) (v := .ref (g 1)) (C := RX4) (T := TX4) (N := 13) hx hb hts (fun _ h => List.mem_cons_of_mem _ (List.mem_append_right _ h)) hown hK.1 hP 0 rfl rfl 0 (by decide) (hts (.fieldLink RX4 7 "RevisionStoresModel" "documents" "[I") (List.mem_of_getElem? (i := 2) rfl)) (fun _ h9 => h9) rfl dX4_winnerOfAll_62 ?_
          refine lv_iload_n hx hb dX4_winnerOfAll_65 rfl (lv_at hl 1 rfl) ?_
          refine r_iald (j := k) (v := nI (dc k)) hx hb hK.1 hP 1 0 rfl rfl (by omega) (by first | decide | omega) rfl dX4_winnerOfAll_66 ?_
          have f66 := hTd k
          refine lv_iload_n hx hb dX4_winnerOfAll_67 rfl (lv_at hl 4 rfl) ?_
          refine r_icmp_neN hx hb (x := dc k) (y := d) (by first | omega | decide) (by first | omega | decide) (tgt := 88) dX4_winnerOfAll_68 (by decide) (fun c68 => ?_) (fun c68 => ?_)
          · refine lv_iconst (v := nI 0) hx hb dX4_winnerOfAll_88 (by decide) ?_
            refine lv_istore (lv' := [(5, .int (nI 0)), (4, .int (bI (any (hsP pa mk 0 k) n || (any (hsP pa mk 1 k) n || any (hsP pa mk 2 k) n)))), (3, .int (nI k)), (2, .int (eP (bsS dc dl ge su (woL pa mk n) d k))), (0, .ref (g 0)), (1, .int (nI d))]) hx hb dX4_winnerOfAll_89 hl (by decide) rfl (fun ls hl => ?_)
            refine lv_iload hx hb dX4_winnerOfAll_91 (lv_at hl 0 rfl) ?_
            refine r_if_eqB (x := false) (tgt := 114) hx hb dX4_winnerOfAll_93 (by decide) (fun c93 => ?_) (fun c93 => by cases c93)
            refine lv_iload_n hx hb dX4_winnerOfAll_114 rfl (lv_at hl 3 rfl) ?_
            refine lv_istore_n (lv' := [(2, .int (eP (bsS dc dl ge su (woL pa mk n) d k))), (5, .int (nI 0)), (4, .int (bI (any (hsP pa mk 0 k) n || (any (hsP pa mk 1 k) n || any (hsP pa mk 2 k) n)))), (3, .int (nI k)), (0, .ref (g 0)), (1, .int (nI d))]) hx hb dX4_winnerOfAll_115 rfl hl (by decide) rfl (fun ls hl => ?_)
            refine lv_iinc (v := nI (k + 1)) (lv' := [(3, .int (nI (k + 1))), (2, .int (eP (bsS dc dl ge su (woL pa mk n) d k))), (5, .int (nI 0)), (4, .int (bI (any (hsP pa mk 0 k) n || (any (hsP pa mk 1 k) n || any (hsP pa mk 2 k) n)))), (0, .ref (g 0)), (1, .int (nI d))]) hx hb dX4_winnerOfAll_116 hl (k := 3) rfl (nI_1 _) (by decide) rfl (fun ls hl => ?_)
            refine lv_goto (tgt := 19) hx hb dX4_winnerOfAll_119 (by decide) ?_
            have hl := lv_re (f := fun z9 => [(3, .int (nI (k + 1))), (2, .int z9), (5, .int (nI 0)), (4, .int (bI (any (hsP pa mk 0 k) n || (any (hsP pa mk 1 k) n || any (hsP pa mk 2 k) n)))), (0, .ref (g 0)), (1, .int (nI d))]) hl (show eP (bsS dc dl ge su (woL pa mk n) d k) = eP (bsS dc dl ge su (woL pa mk n) d (k + 1)) from congrArg eP (show (bsS dc dl ge su (woL pa mk n) d k) = (bsS dc dl ge su (woL pa mk n) d (k + 1)) from by show _ = bsp dc dl ge su (woL pa mk n) d k (bsS dc dl ge su (woL pa mk n) d k); first | (rw [c81] at *; simp [bsp, woL, c10, c24, c68, c93]; done) | (simp [bsp, woL, c10, c24, c68, c93]; done)))
            exact ih19 (k + 1) (by first | assumption | omega) (by omega) H locs ls hP hD hS (lv_sub hl [0, 1, 4, 5] rfl)
          · refine lv_aload_n hx hb dX4_winnerOfAll_71 rfl (lv_at hl 3 rfl) ?_
            refine lv_iload_n hx hb dX4_winnerOfAll_72 rfl (lv_at hl 1 rfl) ?_
            refine r_cV (As := [.int (nI k)]) (rest := []) ⟨hx, hb, hml, hown, hts⟩ (cX4_isAnywhere_ok l D ct g n dc pa va dl ge su mk dp sq tc kp (gof true true true) k (by first | assumption | omega)) (cwV 1 hts gX4_winnerOfAll_X4_isAnywhere rfl rfl rfl (by decide +kernel) ⟨Nat.le_of_ble_eq_true rfl, Nat.le_of_ble_eq_true rfl⟩) hK (hP.sub (ws' := wM ct g n dc pa va dl ge su mk dp sq tc kp (gof true true true)) [0, 1, 2, 3, 4, 5, 6, 7, 8, 9, 10, 11] rfl) 0 4 rfl rfl rfl hl.1 rfl (Nat.le_of_ble_eq_true rfl) dX4_winnerOfAll_73 ⟨Nat.le_of_ble_eq_true rfl, Nat.le_of_ble_eq_true rfl⟩ ?_
            refine r_if_eqB (x := anw mk k) (tgt := 88) hx hb dX4_winnerOfAll_76 (by decide) (fun c76 => ?_) (fun c76 => ?_)
            · refine lv_iconst (v := nI 0) hx hb dX4_winnerOfAll_88 (by decide) ?_
              refine lv_istore (lv' := [(5, .int (nI 0)), (4, .int (bI (any (hsP pa mk 0 k) n || (any (hsP pa mk 1 k) n || any (hsP pa mk 2 k) n)))), (3, .int (nI k)), (2, .int (eP (bsS dc dl ge su (woL pa mk n) d k))), (0, .ref (g 0)), (1, .int (nI d))]) hx hb dX4_winnerOfAll_89 hl (by decide) rfl (fun ls hl => ?_)
              refine lv_iload hx hb dX4_winnerOfAll_91 (lv_at hl 0 rfl) ?_
              refine r_if_eqB (x := false) (tgt := 114) hx hb dX4_winnerOfAll_93 (by decide) (fun c93 => ?_) (fun c93 => by cases c93)
              refine lv_iload_n hx hb dX4_winnerOfAll_114 rfl (lv_at hl 3 rfl) ?_
              refine lv_istore_n (lv' := [(2, .int (eP (bsS dc dl ge su (woL pa mk n) d k))), (5, .int (nI 0)), (4, .int (bI (any (hsP pa mk 0 k) n || (any (hsP pa mk 1 k) n || any (hsP pa mk 2 k) n)))), (3, .int (nI k)), (0, .ref (g 0)), (1, .int (nI d))]) hx hb dX4_winnerOfAll_115 rfl hl (by decide) rfl (fun ls hl => ?_)
              refine lv_iinc (v := nI (k + 1)) (lv' := [(3, .int (nI (k + 1))), (2, .int (eP (bsS dc dl ge su (woL pa mk n) d k))), (5, .int (nI 0)), (4, .int (bI (any (hsP pa mk 0 k) n || (any (hsP pa mk 1 k) n || any (hsP pa mk 2 k) n)))), (0, .ref (g 0)), (1, .int (nI d))]) hx hb dX4_winnerOfAll_116 hl (k := 3) rfl (nI_1 _) (by decide) rfl (fun ls hl => ?_)
              refine lv_goto (tgt := 19) hx hb dX4_winnerOfAll_119 (by decide) ?_
              have hl := lv_re (f := fun z9 => [(3, .int (nI (k + 1))), (2, .int z9), (5, .int (nI 0)), (4, .int (bI (any (hsP pa mk 0 k) n || (any (hsP pa mk 1 k) n || any (hsP pa mk 2 k) n)))), (0, .ref (g 0)), (1, .int (nI d))]) hl (show eP (bsS dc dl ge su (woL pa mk n) d k) = eP (bsS dc dl ge su (woL pa mk n) d (k + 1)) from congrArg eP (show (bsS dc dl ge su (woL pa mk n) d k) = (bsS dc dl ge su (woL pa mk n) d (k + 1)) from by show _ = bsp dc dl ge su (woL pa mk n) d k (bsS dc dl ge su (woL pa mk n) d k); first | (rw [c81] at *; simp [bsp, woL, c10, c24, c68, c76, c93]; done) | (simp [bsp, woL, c10, c24, c68, c76, c93]; done)))
              exact ih19 (k + 1) (by first | assumption | omega) (by omega) H locs ls hP hD hS (lv_sub hl [0, 1, 4, 5] rfl)
            · refine lv_iload hx hb dX4_winnerOfAll_79 (lv_at hl 0 rfl) ?_
              refine r_if_neB (x := any (hsP pa mk 0 k) n || (any (hsP pa mk 1 k) n || any (hsP pa mk 2 k) n)) (tgt := 88) hx hb dX4_winnerOfAll_81 (by decide) (fun c81 => ?_) (fun c81 => ?_)
              · refine lv_iconst (v := nI 0) hx hb dX4_winnerOfAll_88 (by decide) ?_
                refine lv_istore (lv' := [(5, .int (nI 0)), (4, .int (bI (any (hsP pa mk 0 k) n || (any (hsP pa mk 1 k) n || any (hsP pa mk 2 k) n)))), (3, .int (nI k)), (2, .int (eP (bsS dc dl ge su (woL pa mk n) d k))), (0, .ref (g 0)), (1, .int (nI d))]) hx hb dX4_winnerOfAll_89 hl (by decide) rfl (fun ls hl => ?_)
                refine lv_iload hx hb dX4_winnerOfAll_91 (lv_at hl 0 rfl) ?_
                refine r_if_eqB (x := false) (tgt := 114) hx hb dX4_winnerOfAll_93 (by decide) (fun c93 => ?_) (fun c93 => by cases c93)
                refine lv_iload_n hx hb dX4_winnerOfAll_114 rfl (lv_at hl 3 rfl) ?_
                refine lv_istore_n (lv' := [(2, .int (eP (bsS dc dl ge su (woL pa mk n) d k))), (5, .int (nI 0)), (4, .int (bI (any (hsP pa mk 0 k) n || (any (hsP pa mk 1 k) n || any (hsP pa mk 2 k) n)))), (3, .int (nI k)), (0, .ref (g 0)), (1, .int (nI d))]) hx hb dX4_winnerOfAll_115 rfl hl (by decide) rfl (fun ls hl => ?_)
                refine lv_iinc (v := nI (k + 1)) (lv' := [(3, .int (nI (k + 1))), (2, .int (eP (bsS dc dl ge su (woL pa mk n) d k))), (5, .int (nI 0)), (4, .int (bI (any (hsP pa mk 0 k) n || (any (hsP pa mk 1 k) n || any (hsP pa mk 2 k) n)))), (0, .ref (g 0)), (1, .int (nI d))]) hx hb dX4_winnerOfAll_116 hl (k := 3) rfl (nI_1 _) (by decide) rfl (fun ls hl => ?_)
                refine lv_goto (tgt := 19) hx hb dX4_winnerOfAll_119 (by decide) ?_
                have hl := lv_re (f := fun z9 => [(3, .int (nI (k + 1))), (2, .int z9), (5, .int (nI 0)), (4, .int (bI (any (hsP pa mk 0 k) n || (any (hsP pa mk 1 k) n || any (hsP pa mk 2 k) n)))), (0, .ref (g 0)), (1, .int (nI d))]) hl (show eP (bsS dc dl ge su (woL pa mk n) d k) = eP (bsS dc dl ge su (woL pa mk n) d (k + 1)) from congrArg eP (show (bsS dc dl ge su (woL pa mk n) d k) = (bsS dc dl ge su (woL pa mk n) d (k + 1)) from by show _ = bsp dc dl ge su (woL pa mk n) d k (bsS dc dl ge su (woL pa mk n) d k); first | (rw [c81] at *; simp [bsp, woL, c10, c24, c68, c76, c81, c93]; done) | (simp [bsp, woL, c10, c24, c68, c76, c81, c93]; done)))
                exact ih19 (k + 1) (by first | assumption | omega) (by omega) H locs ls hP hD hS (lv_sub hl [0, 1, 4, 5] rfl)
              · refine lv_iconst (v := nI 1) hx hb dX4_winnerOfAll_84 (by decide) ?_
                refine lv_goto (tgt := 89) hx hb dX4_winnerOfAll_85 (by decide) ?_
                refine lv_istore (lv' := [(5, .int (nI 1)), (4, .int (bI (any (hsP pa mk 0 k) n || (any (hsP pa mk 1 k) n || any (hsP pa mk 2 k) n)))), (3, .int (nI k)), (2, .int (eP (bsS dc dl ge su (woL pa mk n) d k))), (0, .ref (g 0)), (1, .int (nI d))]) hx hb dX4_winnerOfAll_89 hl (by decide) rfl (fun ls hl => ?_)
                refine lv_iload hx hb dX4_winnerOfAll_91 (lv_at hl 0 rfl) ?_
                refine r_if_eqB (x := true) (tgt := 114) hx hb dX4_winnerOfAll_93 (by decide) (fun c93 => by cases c93) (fun c93 => ?_)
                refine lv_iload_n hx hb dX4_winnerOfAll_96 rfl (lv_at hl 3 rfl) ?_
                refine lv_iconst (v := -1) hx hb dX4_winnerOfAll_97 (by decide) ?_
                refine r_icmp_eqP hx hb (x := bsS dc dl ge su (woL pa mk n) d k) (by intro j9 h9; have := bsS_lt _ _ _ _ _ _ _ _ h9; omega) (tgt := 110) dX4_winnerOfAll_98 (by decide) (fun c98 => ?_) (fun j98 c98 => ?_)
                · have hl := lv_re (f := fun z9 => [(5, .int (nI 1)), (4, .int (bI (any (hsP pa mk 0 k) n || (any (hsP pa mk 1 k) n || any (hsP pa mk 2 k) n)))), (3, .int (nI k)), (2, .int z9), (0, .ref (g 0)), (1, .int (nI d))]) hl (show eP (bsS dc dl ge su (woL pa mk n) d k) = eP none from congrArg eP c98)
                  refine lv_iload_n hx hb dX4_winnerOfAll_110 rfl (lv_at hl 2 rfl) ?_
                  refine lv_goto (tgt := 115) hx hb dX4_winnerOfAll_111 (by decide) ?_
                  refine lv_istore_n (lv' := [(2, .int (nI k)), (5, .int (nI 1)), (4, .int (bI (any (hsP pa mk 0 k) n || (any (hsP pa mk 1 k) n || any (hsP pa mk 2 k) n)))), (3, .int (nI k)), (0, .ref (g 0)), (1, .int (nI d))]) hx hb dX4_winnerOfAll_115 rfl hl (by decide) rfl (fun ls hl => ?_)
                  refine lv_iinc (v := nI (k + 1)) (lv' := [(3, .int (nI (k + 1))), (2, .int (nI k)), (5, .int (nI 1)), (4, .int (bI (any (hsP pa mk 0 k) n || (any (hsP pa mk 1 k) n || any (hsP pa mk 2 k) n)))), (0, .ref (g 0)), (1, .int (nI d))]) hx hb dX4_winnerOfAll_116 hl (k := 3) rfl (nI_1 _) (by decide) rfl (fun ls hl => ?_)
                  refine lv_goto (tgt := 19) hx hb dX4_winnerOfAll_119 (by decide) ?_
                  have hl := lv_re (f := fun z9 => [(3, .int (nI (k + 1))), (2, .int z9), (5, .int (nI 1)), (4, .int (bI (any (hsP pa mk 0 k) n || (any (hsP pa mk 1 k) n || any (hsP pa mk 2 k) n)))), (0, .ref (g 0)), (1, .int (nI d))]) hl (show nI k = eP (bsS dc dl ge su (woL pa mk n) d (k + 1)) from congrArg eP (show some k = (bsS dc dl ge su (woL pa mk n) d (k + 1)) from by show _ = bsp dc dl ge su (woL pa mk n) d k (bsS dc dl ge su (woL pa mk n) d k); first | (rw [c81] at *; simp [bsp, woL, c10, c24, c68, c76, c81, c93, c98]; done) | (simp [bsp, woL, c10, c24, c68, c76, c81, c93, c98]; done)))
                  exact ih19 (k + 1) (by first | assumption | omega) (by omega) H locs ls hP hD hS (lv_sub hl [0, 1, 4, 5] rfl)
                · have hl := lv_re (f := fun z9 => [(5, .int (nI 1)), (4, .int (bI (any (hsP pa mk 0 k) n || (any (hsP pa mk 1 k) n || any (hsP pa mk 2 k) n)))), (3, .int (nI k)), (2, .int z9), (0, .ref (g 0)), (1, .int (nI d))]) hl (show eP (bsS dc dl ge su (woL pa mk n) d k) = nI j98 from congrArg eP c98)
                  have e101 := bsS_lt _ _ _ _ _ _ _ _ c98
                  refine lv_aload_n hx hb dX4_winnerOfAll_101 rfl (lv_at hl 4 rfl) ?_
                  refine lv_iload_n hx hb dX4_winnerOfAll_102 rfl (lv_at hl 2 rfl) ?_
                  refine lv_iload_n hx hb dX4_winnerOfAll_103 rfl (lv_at hl 3 rfl) ?_
                  refine r_cV (As := [.int (nI k), .int (nI j98)]) (rest := []) ⟨hx, hb, hml, hown, hts⟩ (cX4_isBetter_ok l D ct g n dc pa va dl ge su mk dp sq tc kp (gof true true true) k j98 (by first | assumption | omega) (by first | assumption | omega) (by first | assumption | omega)) (cwV 2 hts gX4_winnerOfAll_X4_isBetter rfl rfl rfl (by decide +kernel) ⟨Nat.le_of_ble_eq_true rfl, Nat.le_of_ble_eq_true rfl⟩) hK (hP.sub (ws' := wM ct g n dc pa va dl ge su mk dp sq tc kp (gof true true true)) [0, 1, 2, 3, 4, 5, 6, 7, 8, 9, 10, 11] rfl) 0 4 rfl rfl rfl hl.1 rfl (Nat.le_of_ble_eq_true rfl) dX4_winnerOfAll_104 ⟨Nat.le_of_ble_eq_true rfl, Nat.le_of_ble_eq_true rfl⟩ ?_
                  refine r_if_eqB (x := btr dl ge su k j98) (tgt := 114) hx hb dX4_winnerOfAll_107 (by decide) (fun c107 => ?_) (fun c107 => ?_)
                  · refine lv_iload_n hx hb dX4_winnerOfAll_114 rfl (lv_at hl 3 rfl) ?_
                    refine lv_istore_n (lv' := [(2, .int (nI j98)), (5, .int (nI 1)), (4, .int (bI (any (hsP pa mk 0 k) n || (any (hsP pa mk 1 k) n || any (hsP pa mk 2 k) n)))), (3, .int (nI k)), (0, .ref (g 0)), (1, .int (nI d))]) hx hb dX4_winnerOfAll_115 rfl hl (by decide) rfl (fun ls hl => ?_)
                    refine lv_iinc (v := nI (k + 1)) (lv' := [(3, .int (nI (k + 1))), (2, .int (nI j98)), (5, .int (nI 1)), (4, .int (bI (any (hsP pa mk 0 k) n || (any (hsP pa mk 1 k) n || any (hsP pa mk 2 k) n)))), (0, .ref (g 0)), (1, .int (nI d))]) hx hb dX4_winnerOfAll_116 hl (k := 3) rfl (nI_1 _) (by decide) rfl (fun ls hl => ?_)
                    refine lv_goto (tgt := 19) hx hb dX4_winnerOfAll_119 (by decide) ?_
                    have hl := lv_re (f := fun z9 => [(3, .int (nI (k + 1))), (2, .int z9), (5, .int (nI 1)), (4, .int (bI (any (hsP pa mk 0 k) n || (any (hsP pa mk 1 k) n || any (hsP pa mk 2 k) n)))), (0, .ref (g 0)), (1, .int (nI d))]) hl (show nI j98 = eP (bsS dc dl ge su (woL pa mk n) d (k + 1)) from congrArg eP (show some j98 = (bsS dc dl ge su (woL pa mk n) d (k + 1)) from by show _ = bsp dc dl ge su (woL pa mk n) d k (bsS dc dl ge su (woL pa mk n) d k); first | (rw [c81] at *; simp [bsp, woL, c10, c24, c68, c76, c81, c93, c98, c107]; done) | (simp [bsp, woL, c10, c24, c68, c76, c81, c93, c98, c107]; done)))
                    exact ih19 (k + 1) (by first | assumption | omega) (by omega) H locs ls hP hD hS (lv_sub hl [0, 1, 4, 5] rfl)
                  · refine lv_iload_n hx hb dX4_winnerOfAll_110 rfl (lv_at hl 2 rfl) ?_
                    refine lv_goto (tgt := 115) hx hb dX4_winnerOfAll_111 (by decide) ?_
                    refine lv_istore_n (lv' := [(2, .int (nI k)), (5, .int (nI 1)), (4, .int (bI (any (hsP pa mk 0 k) n || (any (hsP pa mk 1 k) n || any (hsP pa mk 2 k) n)))), (3, .int (nI k)), (0, .ref (g 0)), (1, .int (nI d))]) hx hb dX4_winnerOfAll_115 rfl hl (by decide) rfl (fun ls hl => ?_)
                    refine lv_iinc (v := nI (k + 1)) (lv' := [(3, .int (nI (k + 1))), (2, .int (nI k)), (5, .int (nI 1)), (4, .int (bI (any (hsP pa mk 0 k) n || (any (hsP pa mk 1 k) n || any (hsP pa mk 2 k) n)))), (0, .ref (g 0)), (1, .int (nI d))]) hx hb dX4_winnerOfAll_116 hl (k := 3) rfl (nI_1 _) (by decide) rfl (fun ls hl => ?_)
                    refine lv_goto (tgt := 19) hx hb dX4_winnerOfAll_119 (by decide) ?_
                    have hl := lv_re (f := fun z9 => [(3, .int (nI (k + 1))), (2, .int z9), (5, .int (nI 1)), (4, .int (bI (any (hsP pa mk 0 k) n || (any (hsP pa mk 1 k) n || any (hsP pa mk 2 k) n)))), (0, .ref (g 0)), (1, .int (nI d))]) hl (show nI k = eP (bsS dc dl ge su (woL pa mk n) d (k + 1)) from congrArg eP (show some k = (bsS dc dl ge su (woL pa mk n) d (k + 1)) from by show _ = bsp dc dl ge su (woL pa mk n) d k (bsS dc dl ge su (woL pa mk n) d k); first | (rw [c81] at *; simp [bsp, woL, c10, c24, c68, c76, c81, c93, c98, c107]; done) | (simp [bsp, woL, c10, c24, c68, c76, c81, c93, c98, c107]; done)))
                    exact ih19 (k + 1) (by first | assumption | omega) (by omega) H locs ls hP hD hS (lv_sub hl [0, 1, 4, 5] rfl)
        refine lv_aload_n hx hb dX4_winnerOfAll_27 rfl (lv_at hl 2 rfl) ?_
        refine lv_iconst (v := nI 0) hx hb dX4_winnerOfAll_28 (by decide) ?_
        refine lv_iload_n hx hb dX4_winnerOfAll_29 rfl (lv_at hl 0 rfl) ?_
        refine r_cV (As := [.int (nI 0), .int (nI k)]) (rest := []) ⟨hx, hb, hml, hown, hts⟩ (cX4_hasDescendant_ok l D ct g n dc pa va dl ge su mk dp sq tc kp (gof true true true) 0 k (by first | assumption | omega) (by first | assumption | omega) (by first | assumption | omega) (by first | assumption | omega)) (cwV 2 hts gX4_winnerOfAll_X4_hasDescendant rfl rfl rfl (by decide +kernel) ⟨Nat.le_of_ble_eq_true rfl, Nat.le_of_ble_eq_true rfl⟩) hK (hP.sub (ws' := wM ct g n dc pa va dl ge su mk dp sq tc kp (gof true true true)) [0, 1, 2, 3, 4, 5, 6, 7, 8, 9, 10, 11] rfl) 0 4 rfl rfl rfl hl.1 rfl (Nat.le_of_ble_eq_true rfl) dX4_winnerOfAll_30 ⟨Nat.le_of_ble_eq_true rfl, Nat.le_of_ble_eq_true rfl⟩ ?_
        refine r_if_neB (x := any (hsP pa mk 0 k) n) (tgt := 54) hx hb dX4_winnerOfAll_33 (by decide) (fun c33 => ?_) (fun c33 => ?_)
        · refine lv_iconst (v := nI 1) hx hb dX4_winnerOfAll_54 (by decide) ?_
          refine lv_goto (tgt := 59) hx hb dX4_winnerOfAll_55 (by decide) ?_
          refine r_top (y := bI (any (hsP pa mk 0 k) n || (any (hsP pa mk 1 k) n || any (hsP pa mk 2 k) n))) (congrArg bI (show true = (any (hsP pa mk 0 k) n || (any (hsP pa mk 1 k) n || any (hsP pa mk 2 k) n)) from by simp [c10, c24, c33])) ?_
          exact jn59 H locs ls hP hD hS (lv_sub hl [0, 1, 2, 3] rfl)
        · refine lv_aload_n hx hb dX4_winnerOfAll_36 rfl (lv_at hl 2 rfl) ?_
          refine lv_iconst (v := nI 1) hx hb dX4_winnerOfAll_37 (by decide) ?_
          refine lv_iload_n hx hb dX4_winnerOfAll_38 rfl (lv_at hl 0 rfl) ?_
          refine r_cV (As := [.int (nI 1), .int (nI k)]) (rest := []) ⟨hx, hb, hml, hown, hts⟩ (cX4_hasDescendant_ok l D ct g n dc pa va dl ge su mk dp sq tc kp (gof true true true) 1 k (by first | assumption | omega) (by first | assumption | omega) (by first | assumption | omega) (by first | assumption | omega)) (cwV 2 hts gX4_winnerOfAll_X4_hasDescendant rfl rfl rfl (by decide +kernel) ⟨Nat.le_of_ble_eq_true rfl, Nat.le_of_ble_eq_true rfl⟩) hK (hP.sub (ws' := wM ct g n dc pa va dl ge su mk dp sq tc kp (gof true true true)) [0, 1, 2, 3, 4, 5, 6, 7, 8, 9, 10, 11] rfl) 0 4 rfl rfl rfl hl.1 rfl (Nat.le_of_ble_eq_true rfl) dX4_winnerOfAll_39 ⟨Nat.le_of_ble_eq_true rfl, Nat.le_of_ble_eq_true rfl⟩ ?_
          refine r_if_neB (x := any (hsP pa mk 1 k) n) (tgt := 54) hx hb dX4_winnerOfAll_42 (by decide) (fun c42 => ?_) (fun c42 => ?_)
          · refine lv_iconst (v := nI 1) hx hb dX4_winnerOfAll_54 (by decide) ?_
            refine lv_goto (tgt := 59) hx hb dX4_winnerOfAll_55 (by decide) ?_
            refine r_top (y := bI (any (hsP pa mk 0 k) n || (any (hsP pa mk 1 k) n || any (hsP pa mk 2 k) n))) (congrArg bI (show true = (any (hsP pa mk 0 k) n || (any (hsP pa mk 1 k) n || any (hsP pa mk 2 k) n)) from by simp [c10, c24, c33, c42])) ?_
            exact jn59 H locs ls hP hD hS (lv_sub hl [0, 1, 2, 3] rfl)
          · refine lv_aload_n hx hb dX4_winnerOfAll_45 rfl (lv_at hl 2 rfl) ?_
            refine lv_iconst (v := nI 2) hx hb dX4_winnerOfAll_46 (by decide) ?_
            refine lv_iload_n hx hb dX4_winnerOfAll_47 rfl (lv_at hl 0 rfl) ?_
            refine r_cV (As := [.int (nI 2), .int (nI k)]) (rest := []) ⟨hx, hb, hml, hown, hts⟩ (cX4_hasDescendant_ok l D ct g n dc pa va dl ge su mk dp sq tc kp (gof true true true) 2 k (by first | assumption | omega) (by first | assumption | omega) (by first | assumption | omega) (by first | assumption | omega)) (cwV 2 hts gX4_winnerOfAll_X4_hasDescendant rfl rfl rfl (by decide +kernel) ⟨Nat.le_of_ble_eq_true rfl, Nat.le_of_ble_eq_true rfl⟩) hK (hP.sub (ws' := wM ct g n dc pa va dl ge su mk dp sq tc kp (gof true true true)) [0, 1, 2, 3, 4, 5, 6, 7, 8, 9, 10, 11] rfl) 0 4 rfl rfl rfl hl.1 rfl (Nat.le_of_ble_eq_true rfl) dX4_winnerOfAll_48 ⟨Nat.le_of_ble_eq_true rfl, Nat.le_of_ble_eq_true rfl⟩ ?_
            refine r_if_eqB (x := any (hsP pa mk 2 k) n) (tgt := 58) hx hb dX4_winnerOfAll_51 (by decide) (fun c51 => ?_) (fun c51 => ?_)
            · refine lv_iconst (v := nI 0) hx hb dX4_winnerOfAll_58 (by decide) ?_
              refine r_top (y := bI (any (hsP pa mk 0 k) n || (any (hsP pa mk 1 k) n || any (hsP pa mk 2 k) n))) (congrArg bI (show false = (any (hsP pa mk 0 k) n || (any (hsP pa mk 1 k) n || any (hsP pa mk 2 k) n)) from by simp [c10, c24, c33, c42, c51])) ?_
              exact jn59 H locs ls hP hD hS (lv_sub hl [0, 1, 2, 3] rfl)
            · refine lv_iconst (v := nI 1) hx hb dX4_winnerOfAll_54 (by decide) ?_
              refine lv_goto (tgt := 59) hx hb dX4_winnerOfAll_55 (by decide) ?_
              refine r_top (y := bI (any (hsP pa mk 0 k) n || (any (hsP pa mk 1 k) n || any (hsP pa mk 2 k) n))) (congrArg bI (show true = (any (hsP pa mk 0 k) n || (any (hsP pa mk 1 k) n || any (hsP pa mk 2 k) n)) from by simp [c10, c24, c33, c42, c51])) ?_
              exact jn59 H locs ls hP hD hS (lv_sub hl [0, 1, 2, 3] rfl)
  have hl := lv_re (f := fun z9 => [(3, .int (nI 0)), (2, .int z9), (0, .ref (g 0)), (1, .int (nI d))]) hl (show eP none = eP (bsS dc dl ge su (woL pa mk n) d 0) from congrArg eP (show none = (bsS dc dl ge su (woL pa mk n) d 0) from rfl))
  exact key19 ((n - 0) + 1) 0 (by first | assumption | omega) (Nat.lt_succ_self _) H locs ls hP hD hS (lv_sub hl [0, 1, 2, 3] rfl)
set_option maxHeartbeats 8000000 in
set_option maxRecDepth 100000 in
theorem cX4_winnerOfAll_bad (l : Launch) (D : va_G) (ct : Nat → ClassId) (g : Nat → Nat) (n : Nat) (dc : Nat → Nat) (pa : Nat → Option Nat) (va : Nat → Int32) (dl : Nat → Bool) (ge : Nat → Nat) (su : Nat → Int32) (mk : Nat → Bool) (dp : Nat → Int32) (sq : Nat → Int32) (tc : Nat → Int32) (kp : Nat → Int32) (la : Int32) (p0 : Int32) (hbad : inn p0 (nI 0) (nI 3) = false) (sz : Nat) : Met l yX4_winnerOfAll wsX4_winnerOfAll ({ frames := 2, cells := 0, slots := 0, locals := 47 } : Room) (wrPc D ct [.ref (g 0), .int p0] (wM ct g n dc pa va dl ge su mk dp sq tc kp la) sz) (wqI D (nI 0) (wM ct g n dc pa va dl ge su mk dp sq tc kp (nI 1)) (va_A (wM ct g n dc pa va dl ge su mk dp sq tc kp la) sz)) 0 0 (va_A (wM ct g n dc pa va dl ge su mk dp sq tc kp la) sz) := by
  refine Met.ofW (cc := cX4_winnerOfAll) (maxL := 6) (ret := (some .int)) (by decide) rfl ?_
  intro p e s m args below meth c s₁ B hml hv
  obtain ⟨rfl, hsz, hP, hK, hD0⟩ := hv
  have hx := B.exec
  have hb := B.bytes
  have hr := B.returns
  have hts := atoms_spec (ws := wsX4_winnerOfAll) B.pre
  have hown : s.vm.findClass RX4 = some m.cls := findClass_of_methodNamed B.named
  have hlocks := B.notSynchronized
  subst hsz
  have hD := hD0.self (sz := s.heap.size)
  generalize hAe : va_A (wM ct g n dc pa va dl ge su mk dp sq tc kp la) s.heap.size = A at hD ⊢
  have hA : ∀ q : Nat, s.heap.size ≤ q → A q := fun q h => by rw [← hAe]; exact Or.inr h
  have hS : va_S A s.heap s.heap [] := va_S.rf
  have hP : va_P D vwCl (wM ct g n dc pa va dl ge su mk dp sq tc kp la) s.heap := hP
  clear hAe hD0
  have hl := lv_entry ([.ref (g 0), .int p0]) (n := 6) (Nat.le_of_ble_eq_true rfl)
  rw [lg_entry_eq]
  generalize (lg_sl ([.ref (g 0), .int p0]) ++ List.replicate (6 - (lg_sl ([.ref (g 0), .int p0])).length) Slot.unset).toArray = ls at hl ⊢
  have hl : lv_has ls 6 [(0, .ref (g 0)), (1, .int p0)] := hl
  have hH0 : s.heap.size ≤ s.heap.size := Nat.le_refl _
  refine lv_aload_n hx hb dX4_winnerOfAll_0 rfl (lv_at hl 0 rfl) ?_
  refine lv_iload_n hx hb dX4_winnerOfAll_1 rfl (lv_at hl 1 rfl) ?_
  refine r_cS (As := [.int p0]) (rest := [.ref (g 0)]) ⟨hx, hb, hml, hown, hts⟩ (cX4_isDocument_ok l D ct p0 ) (va_cwS 1 hts gX4_winnerOfAll_X4_isDocument rfl rfl rfl (by decide +kernel) ⟨Nat.le_of_ble_eq_true rfl, Nat.le_of_ble_eq_true rfl⟩) hK va_Pnil rfl hl.1 rfl (Nat.le_of_ble_eq_true rfl) dX4_winnerOfAll_2 ⟨Nat.le_of_ble_eq_true rfl, Nat.le_of_ble_eq_true rfl⟩ ?_
  refine r_top (y := bI false) (congrArg bI (show (inn p0 (nI 0) (nI 3)) = false from hbad)) ?_
  refine lv_iconst (v := nI 1) hx hb dX4_winnerOfAll_5 (by decide) ?_
  refine lv_iconst (v := nI 1) hx hb dX4_winnerOfAll_6 (by decide) ?_
  refine r_wVi (As := [.int (bI false), .int (bI true), .int (bI true)]) (rest := []) ⟨hx, hb, hml, hown, hts⟩ (cX4_goes_ok l D ct g n dc pa va dl ge su mk dp sq tc kp la false true true  s.heap.size) (cwV 3 hts gX4_winnerOfAll_X4_goes rfl rfl rfl (by decide +kernel) ⟨Nat.le_of_ble_eq_true rfl, Nat.le_of_ble_eq_true rfl⟩) hK hP hD hS hA [0, 1, 2, 3, 4, 5, 6, 7, 8, 9, 10, 11] rfl rfl rfl 0 4 rfl rfl rfl hl.1 rfl (Nat.le_of_ble_eq_true rfl) dX4_winnerOfAll_7 ⟨Nat.le_of_ble_eq_true rfl, Nat.le_of_ble_eq_true rfl⟩ (fun H locs hP hD hS => ?_)
  have hP : va_P D vwCl (wM ct g n dc pa va dl ge su mk dp sq tc kp (gof false true true)) H := hP
  have hD : va_D A (wM ct g n dc pa va dl ge su mk dp sq tc kp (gof false true true)) := hD
  refine r_top (y := bI false) (congrArg bI (show (false && (true && true)) = false from rfl)) ?_
  refine r_if_neB (x := false) (tgt := 15) hx hb dX4_winnerOfAll_10 (by decide) (fun c10 => by cases c10) (fun c10 => ?_)
  refine lv_iconst (v := nI 0) hx hb dX4_winnerOfAll_13 (by decide) ?_
  have e9 : (gof false true true) = (nI 1) := rfl
  have hP := (congrArg (fun z9 => va_P D vwCl (wM ct g n dc pa va dl ge su mk dp sq tc kp z9) H) e9).mp hP
  have hP : va_P D vwCl (wM ct g n dc pa va dl ge su mk dp sq tc kp (nI 1)) H := hP
  exact W.iret hx hb hr (fun t ht hW => ⟨⟨_, (), rfl, rfl, by show va_P D vwCl _ t.heap; rw [ht]; exact hP⟩, hS.F ht⟩) hS.2.2 dX4_winnerOfAll_14
set_option maxHeartbeats 8000000 in
set_option maxRecDepth 100000 in
theorem cX4_conflicts_ok (l : Launch) (D : va_G) (ct : Nat → ClassId) (g : Nat → Nat) (n : Nat) (dc : Nat → Nat) (pa : Nat → Option Nat) (va : Nat → Int32) (dl : Nat → Bool) (ge : Nat → Nat) (su : Nat → Int32) (mk : Nat → Bool) (dp : Nat → Int32) (sq : Nat → Int32) (tc : Nat → Int32) (kp : Nat → Int32) (la : Int32) (i : Nat) (d : Nat) (hn : n ≤ 150) (hTd : ∀ k, dc k < 4) (hTp : ∀ k j, k < n → pa k = some j → j < k) (hi : i < 3) (hd4 : d < 4) (sz : Nat) : Met l yX4_conflicts wsX4_conflicts ({ frames := 3, cells := 0, slots := 0, locals := 69 } : Room) (wrPc D ct [.ref (g 0), .int (nI i), .int (nI d)] (wM ct g n dc pa va dl ge su mk dp sq tc kp la) sz) (wqI D (nI (fct (llC dc dl (lef pa mk i n) d) n - 1)) (wM ct g n dc pa va dl ge su mk dp sq tc kp (nI 0)) (va_A (wM ct g n dc pa va dl ge su mk dp sq tc kp la) sz)) 0 0 (va_A (wM ct g n dc pa va dl ge su mk dp sq tc kp la) sz) := by
  refine Met.ofW (cc := cX4_conflicts) (maxL := 5) (ret := (some .int)) (by decide) rfl ?_
  intro p e s m args below meth c s₁ B hml hv
  obtain ⟨rfl, hsz, hP, hK, hD0⟩ := hv
  have hx := B.exec
  have hb := B.bytes
  have hr := B.returns
  have hts := atoms_spec (ws := wsX4_conflicts) B.pre
  have hown : s.vm.findClass RX4 = some m.cls := findClass_of_methodNamed B.named
  have hlocks := B.notSynchronized
  subst hsz
  have hD := hD0.self (sz := s.heap.size)
  generalize hAe : va_A (wM ct g n dc pa va dl ge su mk dp sq tc kp la) s.heap.size = A at hD ⊢
  have hA : ∀ q : Nat, s.heap.size ≤ q → A q := fun q h => by rw [← hAe]; exact Or.inr h
  have hS : va_S A s.heap s.heap [] := va_S.rf
  have hP : va_P D vwCl (wM ct g n dc pa va dl ge su mk dp sq tc kp la) s.heap := hP
  clear hAe hD0
  have hl := lv_entry ([.ref (g 0), .int (nI i), .int (nI d)]) (n := 5) (Nat.le_of_ble_eq_true rfl)
  rw [lg_entry_eq]
  generalize (lg_sl ([.ref (g 0), .int (nI i), .int (nI d)]) ++ List.replicate (5 - (lg_sl ([.ref (g 0), .int (nI i), .int (nI d)])).length) Slot.unset).toArray = ls at hl ⊢
  have hl : lv_has ls 5 [(0, .ref (g 0)), (1, .int (nI i)), (2, .int (nI d))] := hl
  have hH0 : s.heap.size ≤ s.heap.size := Nat.le_refl _
  refine lv_aload_n hx hb dX4_conflicts_0 rfl (lv_at hl 0 rfl) ?_
  refine lv_iload_n hx hb dX4_conflicts_1 rfl (lv_at hl 1 rfl) ?_
  refine r_cS (As := [.int (nI i)]) (rest := [.ref (g 0)]) ⟨hx, hb, hml, hown, hts⟩ (cX4_isStore_ok l D ct (nI i) ) (va_cwS 1 hts gX4_conflicts_X4_isStore rfl rfl rfl (by decide +kernel) ⟨Nat.le_of_ble_eq_true rfl, Nat.le_of_ble_eq_true rfl⟩) hK va_Pnil rfl hl.1 rfl (Nat.le_of_ble_eq_true rfl) dX4_conflicts_2 ⟨Nat.le_of_ble_eq_true rfl, Nat.le_of_ble_eq_true rfl⟩ ?_
  refine r_top (y := bI true) (congrArg bI (show (inn (nI i) (nI 0) (nI 2)) = true from inn_t (by omega) (by decide))) ?_
  refine r_if_eqB (x := true) (tgt := 19) hx hb dX4_conflicts_5 (by decide) (fun c5 => by cases c5) (fun c5 => ?_)
  refine lv_iload_n hx hb dX4_conflicts_8 rfl (lv_at hl 2 rfl) ?_
  refine r_cS (As := [.int (nI d)]) (rest := [.ref (g 0)]) ⟨hx, hb, hml, hown, hts⟩ (cX4_isDocument_ok l D ct (nI d) ) (va_cwS 1 hts gX4_conflicts_X4_isDocument rfl rfl rfl (by decide +kernel) ⟨Nat.le_of_ble_eq_true rfl, Nat.le_of_ble_eq_true rfl⟩) hK va_Pnil rfl hl.1 rfl (Nat.le_of_ble_eq_true rfl) dX4_conflicts_9 ⟨Nat.le_of_ble_eq_true rfl, Nat.le_of_ble_eq_true rfl⟩ ?_
  refine r_top (y := bI true) (congrArg bI (show (inn (nI d) (nI 0) (nI 3)) = true from inn_t (by omega) (by decide))) ?_
  refine r_if_eqB (x := true) (tgt := 19) hx hb dX4_conflicts_12 (by decide) (fun c12 => by cases c12) (fun c12 => ?_)
  refine lv_iconst (v := nI 1) hx hb dX4_conflicts_15 (by decide) ?_
  refine lv_goto (tgt := 20) hx hb dX4_conflicts_16 (by decide) ?_
  refine lv_iconst (v := nI 1) hx hb dX4_conflicts_20 (by decide) ?_
  refine lv_iconst (v := nI 1) hx hb dX4_conflicts_21 (by decide) ?_
  refine r_wVi (As := [.int (bI true), .int (bI true), .int (bI true)]) (rest := []) ⟨hx, hb, hml, hown, hts⟩ (cX4_goes_ok l D ct g n dc pa va dl ge su mk dp sq tc kp la true true true  s.heap.size) (cwV 3 hts gX4_conflicts_X4_goes rfl rfl rfl (by decide +kernel) ⟨Nat.le_of_ble_eq_true rfl, Nat.le_of_ble_eq_true rfl⟩) hK hP hD hS hA [0, 1, 2, 3, 4, 5, 6, 7, 8, 9, 10, 11] rfl rfl rfl 0 4 rfl rfl rfl hl.1 rfl (Nat.le_of_ble_eq_true rfl) dX4_conflicts_22 ⟨Nat.le_of_ble_eq_true rfl, Nat.le_of_ble_eq_true rfl⟩ (fun H locs hP hD hS => ?_)
  have hP : va_P D vwCl (wM ct g n dc pa va dl ge su mk dp sq tc kp (gof true true true)) H := hP
  have hD : va_D A (wM ct g n dc pa va dl ge su mk dp sq tc kp (gof true true true)) := hD
  refine r_top (y := bI true) (congrArg bI (show (true && (true && true)) = true from rfl)) ?_
  refine r_if_neB (x := true) (tgt := 30) hx hb dX4_conflicts_25 (by decide) (fun c25 => ?_) (fun c25 => by cases c25)
  refine lv_iconst (v := nI 0) hx hb dX4_conflicts_30 (by decide) ?_
  refine lv_istore_n (lv' := [(3, .int (nI 0)), (0, .ref (g 0)), (1, .int (nI i)), (2, .int (nI d))]) hx hb dX4_conflicts_31 rfl hl (by decide) rfl (fun ls hl => ?_)
  refine lv_iconst (v := nI 0) hx hb dX4_conflicts_32 (by decide) ?_
  refine lv_istore (lv' := [(4, .int (nI 0)), (3, .int (nI 0)), (0, .ref (g 0)), (1, .int (nI i)), (2, .int (nI d))]) hx hb dX4_conflicts_33 hl (by decide) rfl (fun ls hl => ?_)
  have key35 : ∀ (d35 : Nat) (k : Nat) (hk : k ≤ n), n - k < d35 → ∀ (H : Heap) (locs : List Loc) (ls : Array Slot), va_P D vwCl (wM ct g n dc pa va dl ge su mk dp sq tc kp (gof true true true)) H → va_D A (wM ct g n dc pa va dl ge su mk dp sq tc kp (gof true true true)) → va_S A s.heap H locs → lv_has ls 5 [(4, .int (nI k)), (3, .int (nI (fct (llC dc dl (lef pa mk i n) d) k))), (0, .ref (g 0)), (1, .int (nI i)), (2, .int (nI d))] → W p l e ({ frames := 3, cells := 0, slots := 0, locals := 69 } : Room) s m ([.ref (g 0), .int (nI i), .int (nI d)] : List Value).toArray below meth c H locs 0 0 (MQ below (wqI D (nI (fct (llC dc dl (lef pa mk i n) d) n - 1)) (wM ct g n dc pa va dl ge su mk dp sq tc kp (nI 0)) A) ([.ref (g 0), .int (nI i), .int (nI d)] : List Value).toArray s 0 0 A) (F0 m 35 ls []) := by
    intro d35
    induction d35 with
    | zero => intro k hk h9; exact absurd h9 (Nat.not_lt_zero _)
    | succ d35 ih35 =>
      intro k hk hm35 H locs ls hP hD hS hl
      refine lv_iload hx hb dX4_conflicts_35 (lv_at hl 0 rfl) ?_
      refine lv_aload_n hx hb dX4_conflicts_37 rfl (lv_at hl 2 rfl) ?_
      refine va_get (D := D) (ci := 4) (v := .int (nI n)) (C := RX4) (T := TX4) (N := 13) hx hb hts (fun _ h => List.mem_cons_of_mem _ (List.mem_append_right _ h)) hown hK.1 hP 0 rfl rfl 6 (by decide) (hts (.fieldLink RX4 52 "RevisionStoresModel" "revisions" "I") (List.mem_of_getElem? (i := 1) rfl)) (fun _ h9 => h9) rfl dX4_conflicts_38 ?_
      refine r_icmp_geN hx hb (x := k) (y := n) (by first | omega | decide) (by first | omega | decide) (tgt := 89) dX4_conflicts_41 (by decide) (fun c41 => ?_) (fun c41 => ?_)
      · have e89 := fct_le (llC dc dl (lef pa mk i n) d) n
        have hl := lv_re (f := fun z9 => [(4, .int (nI k)), (3, .int z9), (0, .ref (g 0)), (1, .int (nI i)), (2, .int (nI d))]) hl (show nI (fct (llC dc dl (lef pa mk i n) d) k) = nI (fct (llC dc dl (lef pa mk i n) d) n) from congrArg nI (show (fct (llC dc dl (lef pa mk i n) d) k) = (fct (llC dc dl (lef pa mk i n) d) n) from by rw [show k = n by omega]))
        refine lv_iload_n hx hb dX4_conflicts_89 rfl (lv_at hl 1 rfl) ?_
        refine r_if_neN hx hb (x := fct (llC dc dl (lef pa mk i n) d) n) (by first | omega | decide) (tgt := 97) dX4_conflicts_90 (by decide) (fun c90 => ?_) (fun c90 => ?_)
        · refine lv_iload_n hx hb dX4_conflicts_97 rfl (lv_at hl 1 rfl) ?_
          refine lv_iconst (v := nI 1) hx hb dX4_conflicts_98 (by decide) ?_
          refine lv_isub hx hb dX4_conflicts_99 ?_
          refine r_top (y := eP (prd (fct (llC dc dl (lef pa mk i n) d) n))) (nI_prd2 _) ?_
          refine r_top (y := nI (fct (llC dc dl (lef pa mk i n) d) n - 1)) (by first | exact prd_pos c90 | (rw [c90]; done)) ?_
          have e9 : (gof true true true) = (nI 0) := rfl
          have hP := (congrArg (fun z9 => va_P D vwCl (wM ct g n dc pa va dl ge su mk dp sq tc kp z9) H) e9).mp hP
          have hP : va_P D vwCl (wM ct g n dc pa va dl ge su mk dp sq tc kp (nI 0)) H := hP
          exact W.iret hx hb hr (fun t ht hW => ⟨⟨_, (), rfl, rfl, by show va_P D vwCl _ t.heap; rw [ht]; exact hP⟩, hS.F ht⟩) hS.2.2 dX4_conflicts_100
        · refine lv_iconst (v := nI 0) hx hb dX4_conflicts_93 (by decide) ?_
          refine lv_goto (tgt := 100) hx hb dX4_conflicts_94 (by decide) ?_
          refine r_top (y := nI (fct (llC dc dl (lef pa mk i n) d) n - 1)) (congrArg nI (show 0 = (fct (llC dc dl (lef pa mk i n) d) n - 1) from by first | exact prd_pos c90 | (rw [c90]; done))) ?_
          have e9 : (gof true true true) = (nI 0) := rfl
          have hP := (congrArg (fun z9 => va_P D vwCl (wM ct g n dc pa va dl ge su mk dp sq tc kp z9) H) e9).mp hP
          have hP : va_P D vwCl (wM ct g n dc pa va dl ge su mk dp sq tc kp (nI 0)) H := hP
          exact W.iret hx hb hr (fun t ht hW => ⟨⟨_, (), rfl, rfl, by show va_P D vwCl _ t.heap; rw [ht]; exact hP⟩, hS.F ht⟩) hS.2.2 dX4_conflicts_100
      · refine lv_iload_n hx hb dX4_conflicts_44 rfl (lv_at hl 1 rfl) ?_
        refine lv_aload_n hx hb dX4_conflicts_45 rfl (lv_at hl 2 rfl) ?_
        refine va_get (D := D) (ci := 4) (v := .ref (g 1)) (C := RX4) (T := TX4) (N := 13) hx hb hts (fun _ h => List.mem_cons_of_mem _ (List.mem_append_right _ h)) hown hK.1 hP 0 rfl rfl 0 (by decide) (hts (.fieldLink RX4 7 "RevisionStoresModel" "documents" "[I") (List.mem_of_getElem? (i := 2) rfl)) (fun _ h9 => h9) rfl dX4_conflicts_46 ?_
        refine lv_iload hx hb dX4_conflicts_49 (lv_at hl 0 rfl) ?_
        refine r_iald (j := k) (v := nI (dc k)) hx hb hK.1 hP 1 0 rfl rfl (by omega) (by first | decide | omega) rfl dX4_conflicts_51 ?_
        have f51 := hTd k
        refine lv_iload_n hx hb dX4_conflicts_52 rfl (lv_at hl 4 rfl) ?_
        refine r_icmp_neN hx hb (x := dc k) (y := d) (by first | omega | decide) (by first | omega | decide) (tgt := 80) dX4_conflicts_53 (by decide) (fun c53 => ?_) (fun c53 => ?_)
        · refine lv_iconst (v := nI 0) hx hb dX4_conflicts_80 (by decide) ?_
          refine r_iaddN hx hb dX4_conflicts_81 ?_
          refine lv_istore_n (lv' := [(3, .int (nI ((fct (llC dc dl (lef pa mk i n) d) k) + 0))), (4, .int (nI k)), (0, .ref (g 0)), (1, .int (nI i)), (2, .int (nI d))]) hx hb dX4_conflicts_82 rfl hl (by decide) rfl (fun ls hl => ?_)
          refine lv_iinc (v := nI (k + 1)) (lv' := [(4, .int (nI (k + 1))), (3, .int (nI ((fct (llC dc dl (lef pa mk i n) d) k) + 0))), (0, .ref (g 0)), (1, .int (nI i)), (2, .int (nI d))]) hx hb dX4_conflicts_83 hl (k := 1) rfl (nI_1 _) (by decide) rfl (fun ls hl => ?_)
          refine lv_goto (tgt := 35) hx hb dX4_conflicts_86 (by decide) ?_
          have hl := lv_re (f := fun z9 => [(4, .int (nI (k + 1))), (3, .int z9), (0, .ref (g 0)), (1, .int (nI i)), (2, .int (nI d))]) hl (show nI ((fct (llC dc dl (lef pa mk i n) d) k) + 0) = nI (fct (llC dc dl (lef pa mk i n) d) (k + 1)) from congrArg nI (show ((fct (llC dc dl (lef pa mk i n) d) k) + 0) = (fct (llC dc dl (lef pa mk i n) d) (k + 1)) from by simp [fct, llC, c5, c12, c25, c41, c53]))
          exact ih35 (k + 1) (by first | assumption | omega) (by omega) H locs ls hP hD hS (lv_sub hl [0, 1, 2, 3, 4] rfl)
        · refine lv_aload_n hx hb dX4_conflicts_56 rfl (lv_at hl 2 rfl) ?_
          refine va_get (D := D) (ci := 4) (v := .ref (g 4)) (C := RX4) (T := TX4) (N := 13) hx hb hts (fun _ h => List.mem_cons_of_mem _ (List.mem_append_right _ h)) hown hK.1 hP 0 rfl rfl 3 (by decide) (hts (.fieldLink RX4 19 "RevisionStoresModel" "deletions" "[Z") (List.mem_of_getElem? (i := 3) rfl)) (fun _ h9 => h9) rfl dX4_conflicts_57 ?_
          refine lv_iload hx hb dX4_conflicts_60 (lv_at hl 0 rfl) ?_
          refine r_zald (j := k) (v := bI (dl k)) hx hb hK.1 hP 4 1 rfl rfl (by omega) (by first | decide | omega) rfl dX4_conflicts_62 ?_
          refine r_if_neB (x := dl k) (tgt := 80) hx hb dX4_conflicts_63 (by decide) (fun c63 => ?_) (fun c63 => ?_)
          · refine lv_iconst (v := nI 0) hx hb dX4_conflicts_80 (by decide) ?_
            refine r_iaddN hx hb dX4_conflicts_81 ?_
            refine lv_istore_n (lv' := [(3, .int (nI ((fct (llC dc dl (lef pa mk i n) d) k) + 0))), (4, .int (nI k)), (0, .ref (g 0)), (1, .int (nI i)), (2, .int (nI d))]) hx hb dX4_conflicts_82 rfl hl (by decide) rfl (fun ls hl => ?_)
            refine lv_iinc (v := nI (k + 1)) (lv' := [(4, .int (nI (k + 1))), (3, .int (nI ((fct (llC dc dl (lef pa mk i n) d) k) + 0))), (0, .ref (g 0)), (1, .int (nI i)), (2, .int (nI d))]) hx hb dX4_conflicts_83 hl (k := 1) rfl (nI_1 _) (by decide) rfl (fun ls hl => ?_)
            refine lv_goto (tgt := 35) hx hb dX4_conflicts_86 (by decide) ?_
            have hl := lv_re (f := fun z9 => [(4, .int (nI (k + 1))), (3, .int z9), (0, .ref (g 0)), (1, .int (nI i)), (2, .int (nI d))]) hl (show nI ((fct (llC dc dl (lef pa mk i n) d) k) + 0) = nI (fct (llC dc dl (lef pa mk i n) d) (k + 1)) from congrArg nI (show ((fct (llC dc dl (lef pa mk i n) d) k) + 0) = (fct (llC dc dl (lef pa mk i n) d) (k + 1)) from by simp [fct, llC, c5, c12, c25, c41, c53, c63]))
            exact ih35 (k + 1) (by first | assumption | omega) (by omega) H locs ls hP hD hS (lv_sub hl [0, 1, 2, 3, 4] rfl)
          · refine lv_aload_n hx hb dX4_conflicts_66 rfl (lv_at hl 2 rfl) ?_
            refine lv_iload_n hx hb dX4_conflicts_67 rfl (lv_at hl 3 rfl) ?_
            refine lv_iload hx hb dX4_conflicts_68 (lv_at hl 0 rfl) ?_
            refine r_cV (As := [.int (nI i), .int (nI k)]) (rest := [.int (nI (fct (llC dc dl (lef pa mk i n) d) k))]) ⟨hx, hb, hml, hown, hts⟩ (cX4_leaf_ok l D ct g n dc pa va dl ge su mk dp sq tc kp (gof true true true) i k (by first | assumption | omega) (by first | assumption | omega) (by first | assumption | omega) (by first | assumption | omega)) (cwV 2 hts gX4_conflicts_X4_leaf rfl rfl rfl (by decide +kernel) ⟨Nat.le_of_ble_eq_true rfl, Nat.le_of_ble_eq_true rfl⟩) hK (hP.sub (ws' := wM ct g n dc pa va dl ge su mk dp sq tc kp (gof true true true)) [0, 1, 2, 3, 4, 5, 6, 7, 8, 9, 10, 11] rfl) 0 4 rfl rfl rfl hl.1 rfl (Nat.le_of_ble_eq_true rfl) dX4_conflicts_70 ⟨Nat.le_of_ble_eq_true rfl, Nat.le_of_ble_eq_true rfl⟩ ?_
            refine r_if_eqB (x := lef pa mk i n k) (tgt := 80) hx hb dX4_conflicts_73 (by decide) (fun c73 => ?_) (fun c73 => ?_)
            · refine lv_iconst (v := nI 0) hx hb dX4_conflicts_80 (by decide) ?_
              refine r_iaddN hx hb dX4_conflicts_81 ?_
              refine lv_istore_n (lv' := [(3, .int (nI ((fct (llC dc dl (lef pa mk i n) d) k) + 0))), (4, .int (nI k)), (0, .ref (g 0)), (1, .int (nI i)), (2, .int (nI d))]) hx hb dX4_conflicts_82 rfl hl (by decide) rfl (fun ls hl => ?_)
              refine lv_iinc (v := nI (k + 1)) (lv' := [(4, .int (nI (k + 1))), (3, .int (nI ((fct (llC dc dl (lef pa mk i n) d) k) + 0))), (0, .ref (g 0)), (1, .int (nI i)), (2, .int (nI d))]) hx hb dX4_conflicts_83 hl (k := 1) rfl (nI_1 _) (by decide) rfl (fun ls hl => ?_)
              refine lv_goto (tgt := 35) hx hb dX4_conflicts_86 (by decide) ?_
              have hl := lv_re (f := fun z9 => [(4, .int (nI (k + 1))), (3, .int z9), (0, .ref (g 0)), (1, .int (nI i)), (2, .int (nI d))]) hl (show nI ((fct (llC dc dl (lef pa mk i n) d) k) + 0) = nI (fct (llC dc dl (lef pa mk i n) d) (k + 1)) from congrArg nI (show ((fct (llC dc dl (lef pa mk i n) d) k) + 0) = (fct (llC dc dl (lef pa mk i n) d) (k + 1)) from by simp [fct, llC, c5, c12, c25, c41, c53, c63, c73]))
              exact ih35 (k + 1) (by first | assumption | omega) (by omega) H locs ls hP hD hS (lv_sub hl [0, 1, 2, 3, 4] rfl)
            · refine lv_iconst (v := nI 1) hx hb dX4_conflicts_76 (by decide) ?_
              refine lv_goto (tgt := 81) hx hb dX4_conflicts_77 (by decide) ?_
              refine r_iaddN hx hb dX4_conflicts_81 ?_
              refine lv_istore_n (lv' := [(3, .int (nI ((fct (llC dc dl (lef pa mk i n) d) k) + 1))), (4, .int (nI k)), (0, .ref (g 0)), (1, .int (nI i)), (2, .int (nI d))]) hx hb dX4_conflicts_82 rfl hl (by decide) rfl (fun ls hl => ?_)
              refine lv_iinc (v := nI (k + 1)) (lv' := [(4, .int (nI (k + 1))), (3, .int (nI ((fct (llC dc dl (lef pa mk i n) d) k) + 1))), (0, .ref (g 0)), (1, .int (nI i)), (2, .int (nI d))]) hx hb dX4_conflicts_83 hl (k := 1) rfl (nI_1 _) (by decide) rfl (fun ls hl => ?_)
              refine lv_goto (tgt := 35) hx hb dX4_conflicts_86 (by decide) ?_
              have hl := lv_re (f := fun z9 => [(4, .int (nI (k + 1))), (3, .int z9), (0, .ref (g 0)), (1, .int (nI i)), (2, .int (nI d))]) hl (show nI ((fct (llC dc dl (lef pa mk i n) d) k) + 1) = nI (fct (llC dc dl (lef pa mk i n) d) (k + 1)) from congrArg nI (show ((fct (llC dc dl (lef pa mk i n) d) k) + 1) = (fct (llC dc dl (lef pa mk i n) d) (k + 1)) from by simp [fct, llC, c5, c12, c25, c41, c53, c63, c73]))
              exact ih35 (k + 1) (by first | assumption | omega) (by omega) H locs ls hP hD hS (lv_sub hl [0, 1, 2, 3, 4] rfl)
  have hl := lv_re (f := fun z9 => [(4, .int (nI 0)), (3, .int z9), (0, .ref (g 0)), (1, .int (nI i)), (2, .int (nI d))]) hl (show nI 0 = nI (fct (llC dc dl (lef pa mk i n) d) 0) from congrArg nI (show 0 = (fct (llC dc dl (lef pa mk i n) d) 0) from rfl))
  exact key35 ((n - 0) + 1) 0 (by first | assumption | omega) (Nat.lt_succ_self _) H locs ls hP hD hS (lv_sub hl [0, 1, 2, 3, 4] rfl)
set_option maxHeartbeats 8000000 in
set_option maxRecDepth 100000 in
theorem cX4_conflicts_bad (l : Launch) (D : va_G) (ct : Nat → ClassId) (g : Nat → Nat) (n : Nat) (dc : Nat → Nat) (pa : Nat → Option Nat) (va : Nat → Int32) (dl : Nat → Bool) (ge : Nat → Nat) (su : Nat → Int32) (mk : Nat → Bool) (dp : Nat → Int32) (sq : Nat → Int32) (tc : Nat → Int32) (kp : Nat → Int32) (la : Int32) (p0 : Int32) (p1 : Int32) (hbad : (inn p0 (nI 0) (nI 2) && inn p1 (nI 0) (nI 3)) = false) (sz : Nat) : Met l yX4_conflicts wsX4_conflicts ({ frames := 3, cells := 0, slots := 0, locals := 69 } : Room) (wrPc D ct [.ref (g 0), .int p0, .int p1] (wM ct g n dc pa va dl ge su mk dp sq tc kp la) sz) (wqI D (nI 0) (wM ct g n dc pa va dl ge su mk dp sq tc kp (nI 1)) (va_A (wM ct g n dc pa va dl ge su mk dp sq tc kp la) sz)) 0 0 (va_A (wM ct g n dc pa va dl ge su mk dp sq tc kp la) sz) := by
  refine Met.ofW (cc := cX4_conflicts) (maxL := 5) (ret := (some .int)) (by decide) rfl ?_
  intro p e s m args below meth c s₁ B hml hv
  obtain ⟨rfl, hsz, hP, hK, hD0⟩ := hv
  have hx := B.exec
  have hb := B.bytes
  have hr := B.returns
  have hts := atoms_spec (ws := wsX4_conflicts) B.pre
  have hown : s.vm.findClass RX4 = some m.cls := findClass_of_methodNamed B.named
  have hlocks := B.notSynchronized
  subst hsz
  have hD := hD0.self (sz := s.heap.size)
  generalize hAe : va_A (wM ct g n dc pa va dl ge su mk dp sq tc kp la) s.heap.size = A at hD ⊢
  have hA : ∀ q : Nat, s.heap.size ≤ q → A q := fun q h => by rw [← hAe]; exact Or.inr h
  have hS : va_S A s.heap s.heap [] := va_S.rf
  have hP : va_P D vwCl (wM ct g n dc pa va dl ge su mk dp sq tc kp la) s.heap := hP
  clear hAe hD0
  have hl := lv_entry ([.ref (g 0), .int p0, .int p1]) (n := 5) (Nat.le_of_ble_eq_true rfl)
  rw [lg_entry_eq]
  generalize (lg_sl ([.ref (g 0), .int p0, .int p1]) ++ List.replicate (5 - (lg_sl ([.ref (g 0), .int p0, .int p1])).length) Slot.unset).toArray = ls at hl ⊢
  have hl : lv_has ls 5 [(0, .ref (g 0)), (1, .int p0), (2, .int p1)] := hl
  have hH0 : s.heap.size ≤ s.heap.size := Nat.le_refl _
  have jn20 : ∀ (H : Heap) (locs : List Loc) (ls : Array Slot), va_P D vwCl (wM ct g n dc pa va dl ge su mk dp sq tc kp la) H → va_D A (wM ct g n dc pa va dl ge su mk dp sq tc kp la) → va_S A s.heap H locs → lv_has ls 5 [(0, .ref (g 0)), (1, .int p0), (2, .int p1)] → W p l e ({ frames := 3, cells := 0, slots := 0, locals := 69 } : Room) s m ([.ref (g 0), .int p0, .int p1] : List Value).toArray below meth c H locs 0 0 (MQ below (wqI D (nI 0) (wM ct g n dc pa va dl ge su mk dp sq tc kp (nI 1)) A) ([.ref (g 0), .int p0, .int p1] : List Value).toArray s 0 0 A) (F0 m 20 ls [.int (bI false), .ref (g 0)]) := by
    intro H locs ls hP hD hS hl
    refine lv_iconst (v := nI 1) hx hb dX4_conflicts_20 (by decide) ?_
    refine lv_iconst (v := nI 1) hx hb dX4_conflicts_21 (by decide) ?_
    refine r_wVi (As := [.int (bI false), .int (bI true), .int (bI true)]) (rest := []) ⟨hx, hb, hml, hown, hts⟩ (cX4_goes_ok l D ct g n dc pa va dl ge su mk dp sq tc kp la false true true  H.size) (cwV 3 hts gX4_conflicts_X4_goes rfl rfl rfl (by decide +kernel) ⟨Nat.le_of_ble_eq_true rfl, Nat.le_of_ble_eq_true rfl⟩) hK hP hD hS hA [0, 1, 2, 3, 4, 5, 6, 7, 8, 9, 10, 11] rfl rfl rfl 0 4 rfl rfl rfl hl.1 rfl (Nat.le_of_ble_eq_true rfl) dX4_conflicts_22 ⟨Nat.le_of_ble_eq_true rfl, Nat.le_of_ble_eq_true rfl⟩ (fun H locs hP hD hS => ?_)
    have hP : va_P D vwCl (wM ct g n dc pa va dl ge su mk dp sq tc kp (gof false true true)) H := hP
    have hD : va_D A (wM ct g n dc pa va dl ge su mk dp sq tc kp (gof false true true)) := hD
    refine r_top (y := bI false) (congrArg bI (show (false && (true && true)) = false from rfl)) ?_
    refine r_if_neB (x := false) (tgt := 30) hx hb dX4_conflicts_25 (by decide) (fun c25 => by cases c25) (fun c25 => ?_)
    refine lv_iconst (v := nI 0) hx hb dX4_conflicts_28 (by decide) ?_
    have e9 : (gof false true true) = (nI 1) := rfl
    have hP := (congrArg (fun z9 => va_P D vwCl (wM ct g n dc pa va dl ge su mk dp sq tc kp z9) H) e9).mp hP
    have hP : va_P D vwCl (wM ct g n dc pa va dl ge su mk dp sq tc kp (nI 1)) H := hP
    exact W.iret hx hb hr (fun t ht hW => ⟨⟨_, (), rfl, rfl, by show va_P D vwCl _ t.heap; rw [ht]; exact hP⟩, hS.F ht⟩) hS.2.2 dX4_conflicts_29
  refine lv_aload_n hx hb dX4_conflicts_0 rfl (lv_at hl 0 rfl) ?_
  refine lv_iload_n hx hb dX4_conflicts_1 rfl (lv_at hl 1 rfl) ?_
  refine r_cS (As := [.int p0]) (rest := [.ref (g 0)]) ⟨hx, hb, hml, hown, hts⟩ (cX4_isStore_ok l D ct p0 ) (va_cwS 1 hts gX4_conflicts_X4_isStore rfl rfl rfl (by decide +kernel) ⟨Nat.le_of_ble_eq_true rfl, Nat.le_of_ble_eq_true rfl⟩) hK va_Pnil rfl hl.1 rfl (Nat.le_of_ble_eq_true rfl) dX4_conflicts_2 ⟨Nat.le_of_ble_eq_true rfl, Nat.le_of_ble_eq_true rfl⟩ ?_
  refine r_if_eqB (x := inn p0 (nI 0) (nI 2)) (tgt := 19) hx hb dX4_conflicts_5 (by decide) (fun c5 => ?_) (fun c5 => ?_)
  · refine lv_iconst (v := nI 0) hx hb dX4_conflicts_19 (by decide) ?_
    refine r_top (y := bI false) (congrArg bI (show false = false from by first | rfl | (exfalso; simp [c5] at hbad))) ?_
    exact jn20 _ _ ls hP hD hS (lv_sub hl [0, 1, 2] rfl)
  · refine lv_iload_n hx hb dX4_conflicts_8 rfl (lv_at hl 2 rfl) ?_
    refine r_cS (As := [.int p1]) (rest := [.ref (g 0)]) ⟨hx, hb, hml, hown, hts⟩ (cX4_isDocument_ok l D ct p1 ) (va_cwS 1 hts gX4_conflicts_X4_isDocument rfl rfl rfl (by decide +kernel) ⟨Nat.le_of_ble_eq_true rfl, Nat.le_of_ble_eq_true rfl⟩) hK va_Pnil rfl hl.1 rfl (Nat.le_of_ble_eq_true rfl) dX4_conflicts_9 ⟨Nat.le_of_ble_eq_true rfl, Nat.le_of_ble_eq_true rfl⟩ ?_
    refine r_if_eqB (x := inn p1 (nI 0) (nI 3)) (tgt := 19) hx hb dX4_conflicts_12 (by decide) (fun c12 => ?_) (fun c12 => ?_)
    · refine lv_iconst (v := nI 0) hx hb dX4_conflicts_19 (by decide) ?_
      refine r_top (y := bI false) (congrArg bI (show false = false from by first | rfl | (exfalso; simp [c5, c12] at hbad))) ?_
      exact jn20 _ _ ls hP hD hS (lv_sub hl [0, 1, 2] rfl)
    · refine lv_iconst (v := nI 1) hx hb dX4_conflicts_15 (by decide) ?_
      refine lv_goto (tgt := 20) hx hb dX4_conflicts_16 (by decide) ?_
      refine r_top (y := bI false) (congrArg bI (show true = false from by first | rfl | (exfalso; simp [c5, c12] at hbad))) ?_
      exact jn20 _ _ ls hP hD hS (lv_sub hl [0, 1, 2] rfl)
set_option maxHeartbeats 8000000 in
set_option maxRecDepth 100000 in
theorem cX4_shown_ok (l : Launch) (D : va_G) (ct : Nat → ClassId) (g : Nat → Nat) (n : Nat) (dc : Nat → Nat) (pa : Nat → Option Nat) (va : Nat → Int32) (dl : Nat → Bool) (ge : Nat → Nat) (su : Nat → Int32) (mk : Nat → Bool) (dp : Nat → Int32) (sq : Nat → Int32) (tc : Nat → Int32) (kp : Nat → Int32) (la : Int32) (i : Nat) (d : Nat) (hn : n ≤ 150) (hTd : ∀ k, dc k < 4) (hTg : ∀ k, ge k ≤ 150) (hTp : ∀ k j, k < n → pa k = some j → j < k) (hi : i < 3) (hd4 : d < 4) : Met l yX4_shown wsX4_shown ({ frames := 4, cells := 0, slots := 0, locals := 94 } : Room) (roPc D ct [.ref (g 0), .int (nI i), .int (nI d)] (wM ct g n dc pa va dl ge su mk dp sq tc kp la)) (rqI (shM pa mk dc dl ge su va i n d)) 0 0 (fun _ => False) := by
  refine Met.ofW (cc := cX4_shown) (maxL := 4) (ret := (some .int)) (by decide) rfl ?_
  intro p e s m args below meth c s₁ B hml hv
  obtain ⟨rfl, hP, hK⟩ := hv
  have hx := B.exec
  have hb := B.bytes
  have hr := B.returns
  have hts := atoms_spec (ws := wsX4_shown) B.pre
  have hown : s.vm.findClass RX4 = some m.cls := findClass_of_methodNamed B.named
  have hlocks := B.notSynchronized
  have hl := lv_entry ([.ref (g 0), .int (nI i), .int (nI d)]) (n := 4) (Nat.le_of_ble_eq_true rfl)
  rw [lg_entry_eq]
  generalize (lg_sl ([.ref (g 0), .int (nI i), .int (nI d)]) ++ List.replicate (4 - (lg_sl ([.ref (g 0), .int (nI i), .int (nI d)])).length) Slot.unset).toArray = ls at hl ⊢
  have hl : lv_has ls 4 [(0, .ref (g 0)), (1, .int (nI i)), (2, .int (nI d))] := hl
  refine lv_aload_n hx hb dX4_shown_0 rfl (lv_at hl 0 rfl) ?_
  refine lv_iload_n hx hb dX4_shown_1 rfl (lv_at hl 1 rfl) ?_
  refine lv_iload_n hx hb dX4_shown_2 rfl (lv_at hl 2 rfl) ?_
  refine r_cV (As := [.int (nI i), .int (nI d)]) (rest := []) ⟨hx, hb, hml, hown, hts⟩ (cX4_best_ok l D ct g n dc pa va dl ge su mk dp sq tc kp la i d (by first | assumption | omega) (by first | assumption | omega) (by first | assumption | omega) (by first | assumption | omega) (by first | assumption | omega) (by first | assumption | omega)) (cwV 2 hts gX4_shown_X4_best rfl rfl rfl (by decide +kernel) ⟨Nat.le_of_ble_eq_true rfl, Nat.le_of_ble_eq_true rfl⟩) hK (hP.sub (ws' := wM ct g n dc pa va dl ge su mk dp sq tc kp la) [0, 1, 2, 3, 4, 5, 6, 7, 8, 9, 10, 11] rfl) 0 4 rfl rfl rfl hl.1 rfl (Nat.le_of_ble_eq_true rfl) dX4_shown_3 ⟨Nat.le_of_ble_eq_true rfl, Nat.le_of_ble_eq_true rfl⟩ ?_
  refine lv_istore_n (lv' := [(3, .int (eP (bsS dc dl ge su (lef pa mk i n) d n))), (0, .ref (g 0)), (1, .int (nI i)), (2, .int (nI d))]) hx hb dX4_shown_6 rfl hl (by decide) rfl (fun ls hl => ?_)
  refine lv_iload_n hx hb dX4_shown_7 rfl (lv_at hl 0 rfl) ?_
  refine lv_iconst (v := -1) hx hb dX4_shown_8 (by decide) ?_
  refine r_icmp_eqP hx hb (x := bsS dc dl ge su (lef pa mk i n) d n) (by intro j9 h9; have := bsS_lt _ _ _ _ _ _ _ _ h9; omega) (tgt := 21) dX4_shown_9 (by decide) (fun c9 => ?_) (fun j9 c9 => ?_)
  · have hl := lv_re (f := fun z9 => [(3, .int z9), (0, .ref (g 0)), (1, .int (nI i)), (2, .int (nI d))]) hl (show eP (bsS dc dl ge su (lef pa mk i n) d n) = eP none from congrArg eP c9)
    refine lv_iconst (v := -1) hx hb dX4_shown_21 (by decide) ?_
    refine lv_goto (tgt := 31) hx hb dX4_shown_22 (by decide) ?_
    refine r_top (y := shM pa mk dc dl ge su va i n d) (by simp [shM, shv, eP, c9]) ?_
    exact W.iret hx hb hr (fun t ht hW => ⟨_, rfl, rfl, ht⟩) (fun _ h => by cases h) dX4_shown_31
  · have hl := lv_re (f := fun z9 => [(3, .int z9), (0, .ref (g 0)), (1, .int (nI i)), (2, .int (nI d))]) hl (show eP (bsS dc dl ge su (lef pa mk i n) d n) = nI j9 from congrArg eP c9)
    have e12 := bsS_lt _ _ _ _ _ _ _ _ c9
    refine lv_aload_n hx hb dX4_shown_12 rfl (lv_at hl 1 rfl) ?_
    refine va_get (D := D) (ci := 4) (v := .ref (g 4)) (C := RX4) (T := TX4) (N := 13) hx hb hts (fun _ h => List.mem_cons_of_mem _ (List.mem_append_right _ h)) hown hK.1 hP 0 rfl rfl 3 (by decide) (hts (.fieldLink RX4 19 "RevisionStoresModel" "deletions" "[Z") (List.mem_of_getElem? (i := 1) rfl)) (fun _ h9 => h9) rfl dX4_shown_13 ?_
    refine lv_iload_n hx hb dX4_shown_16 rfl (lv_at hl 0 rfl) ?_
    refine r_zald (j := j9) (v := bI (dl j9)) hx hb hK.1 hP 4 1 rfl rfl (by omega) (by first | decide | omega) rfl dX4_shown_17 ?_
    refine r_if_eqB (x := dl j9) (tgt := 25) hx hb dX4_shown_18 (by decide) (fun c18 => ?_) (fun c18 => ?_)
    · refine lv_aload_n hx hb dX4_shown_25 rfl (lv_at hl 1 rfl) ?_
      refine va_get (D := D) (ci := 4) (v := .ref (g 3)) (C := RX4) (T := TX4) (N := 13) hx hb hts (fun _ h => List.mem_cons_of_mem _ (List.mem_append_right _ h)) hown hK.1 hP 0 rfl rfl 2 (by decide) (hts (.fieldLink RX4 16 "RevisionStoresModel" "values" "[I") (List.mem_of_getElem? (i := 2) rfl)) (fun _ h9 => h9) rfl dX4_shown_26 ?_
      refine lv_iload_n hx hb dX4_shown_29 rfl (lv_at hl 0 rfl) ?_
      refine r_iald (j := j9) (v := va j9) hx hb hK.1 hP 3 0 rfl rfl (by omega) (by first | decide | omega) rfl dX4_shown_30 ?_
      refine r_top (y := shM pa mk dc dl ge su va i n d) (by simp [shM, shv, eP, c9, c18]) ?_
      exact W.iret hx hb hr (fun t ht hW => ⟨_, rfl, rfl, ht⟩) (fun _ h => by cases h) dX4_shown_31
    · refine lv_iconst (v := -1) hx hb dX4_shown_21 (by decide) ?_
      refine lv_goto (tgt := 31) hx hb dX4_shown_22 (by decide) ?_
      refine r_top (y := shM pa mk dc dl ge su va i n d) (by simp [shM, shv, eP, c9, c18]) ?_
      exact W.iret hx hb hr (fun t ht hW => ⟨_, rfl, rfl, ht⟩) (fun _ h => by cases h) dX4_shown_31
set_option maxHeartbeats 8000000 in
set_option maxRecDepth 100000 in
theorem cX4_count_ok (l : Launch) (D : va_G) (ct : Nat → ClassId) (g : Nat → Nat) (n : Nat) (dc : Nat → Nat) (pa : Nat → Option Nat) (va : Nat → Int32) (dl : Nat → Bool) (ge : Nat → Nat) (su : Nat → Int32) (mk : Nat → Bool) (dp : Nat → Int32) (sq : Nat → Int32) (tc : Nat → Int32) (kp : Nat → Int32) (la : Int32) (i : Nat) (lo : Int32) (hi9 : Int32) (hn : n ≤ 150) (hTd : ∀ k, dc k < 4) (hTg : ∀ k, ge k ≤ 150) (hTp : ∀ k j, k < n → pa k = some j → j < k) (hi : i < 3) (sz : Nat) : Met l yX4_count wsX4_count ({ frames := 5, cells := 0, slots := 0, locals := 117 } : Room) (wrPc D ct [.ref (g 0), .int (nI i), .int lo, .int hi9] (wM ct g n dc pa va dl ge su mk dp sq tc kp la) sz) (wqI D (nI (fct (ctC (shM pa mk dc dl ge su va i n) lo hi9) 4)) (wM ct g n dc pa va dl ge su mk dp sq tc kp (nI 0)) (va_A (wM ct g n dc pa va dl ge su mk dp sq tc kp la) sz)) 0 0 (va_A (wM ct g n dc pa va dl ge su mk dp sq tc kp la) sz) := by
  refine Met.ofW (cc := cX4_count) (maxL := 8) (ret := (some .int)) (by decide) rfl ?_
  intro p e s m args below meth c s₁ B hml hv
  obtain ⟨rfl, hsz, hP, hK, hD0⟩ := hv
  have hx := B.exec
  have hb := B.bytes
  have hr := B.returns
  have hts := atoms_spec (ws := wsX4_count) B.pre
  have hown : s.vm.findClass RX4 = some m.cls := findClass_of_methodNamed B.named
  have hlocks := B.notSynchronized
  subst hsz
  have hD := hD0.self (sz := s.heap.size)
  generalize hAe : va_A (wM ct g n dc pa va dl ge su mk dp sq tc kp la) s.heap.size = A at hD ⊢
  have hA : ∀ q : Nat, s.heap.size ≤ q → A q := fun q h => by rw [← hAe]; exact Or.inr h
  have hS : va_S A s.heap s.heap [] := va_S.rf
  have hP : va_P D vwCl (wM ct g n dc pa va dl ge su mk dp sq tc kp la) s.heap := hP
  clear hAe hD0
  have hl := lv_entry ([.ref (g 0), .int (nI i), .int lo, .int hi9]) (n := 8) (Nat.le_of_ble_eq_true rfl)
  rw [lg_entry_eq]
  generalize (lg_sl ([.ref (g 0), .int (nI i), .int lo, .int hi9]) ++ List.replicate (8 - (lg_sl ([.ref (g 0), .int (nI i), .int lo, .int hi9])).length) Slot.unset).toArray = ls at hl ⊢
  have hl : lv_has ls 8 [(0, .ref (g 0)), (1, .int (nI i)), (2, .int lo), (3, .int hi9)] := hl
  have hH0 : s.heap.size ≤ s.heap.size := Nat.le_refl _
  refine lv_iconst (v := nI 0) hx hb dX4_count_0 (by decide) ?_
  refine lv_istore (lv' := [(4, .int (nI 0)), (0, .ref (g 0)), (1, .int (nI i)), (2, .int lo), (3, .int hi9)]) hx hb dX4_count_1 hl (by decide) rfl (fun ls hl => ?_)
  refine lv_aload_n hx hb dX4_count_3 rfl (lv_at hl 1 rfl) ?_
  refine lv_iload_n hx hb dX4_count_4 rfl (lv_at hl 2 rfl) ?_
  refine r_cS (As := [.int (nI i)]) (rest := [.ref (g 0)]) ⟨hx, hb, hml, hown, hts⟩ (cX4_isStore_ok l D ct (nI i) ) (va_cwS 1 hts gX4_count_X4_isStore rfl rfl rfl (by decide +kernel) ⟨Nat.le_of_ble_eq_true rfl, Nat.le_of_ble_eq_true rfl⟩) hK va_Pnil rfl hl.1 rfl (Nat.le_of_ble_eq_true rfl) dX4_count_5 ⟨Nat.le_of_ble_eq_true rfl, Nat.le_of_ble_eq_true rfl⟩ ?_
  refine r_top (y := bI true) (congrArg bI (show (inn (nI i) (nI 0) (nI 2)) = true from inn_t (by omega) (by decide))) ?_
  refine lv_iconst (v := nI 1) hx hb dX4_count_8 (by decide) ?_
  refine lv_iconst (v := nI 1) hx hb dX4_count_9 (by decide) ?_
  refine r_wVi (As := [.int (bI true), .int (bI true), .int (bI true)]) (rest := []) ⟨hx, hb, hml, hown, hts⟩ (cX4_goes_ok l D ct g n dc pa va dl ge su mk dp sq tc kp la true true true  s.heap.size) (cwV 3 hts gX4_count_X4_goes rfl rfl rfl (by decide +kernel) ⟨Nat.le_of_ble_eq_true rfl, Nat.le_of_ble_eq_true rfl⟩) hK hP hD hS hA [0, 1, 2, 3, 4, 5, 6, 7, 8, 9, 10, 11] rfl rfl rfl 0 4 rfl rfl rfl hl.1 rfl (Nat.le_of_ble_eq_true rfl) dX4_count_10 ⟨Nat.le_of_ble_eq_true rfl, Nat.le_of_ble_eq_true rfl⟩ (fun H locs hP hD hS => ?_)
  have hP : va_P D vwCl (wM ct g n dc pa va dl ge su mk dp sq tc kp (gof true true true)) H := hP
  have hD : va_D A (wM ct g n dc pa va dl ge su mk dp sq tc kp (gof true true true)) := hD
  refine r_top (y := bI true) (congrArg bI (show (true && (true && true)) = true from rfl)) ?_
  refine lv_istore (lv' := [(5, .int (bI true)), (4, .int (nI 0)), (0, .ref (g 0)), (1, .int (nI i)), (2, .int lo), (3, .int hi9)]) hx hb dX4_count_13 hl (by decide) rfl (fun ls hl => ?_)
  refine lv_iconst (v := nI 0) hx hb dX4_count_15 (by decide) ?_
  refine lv_istore (lv' := [(6, .int (nI 0)), (5, .int (bI true)), (4, .int (nI 0)), (0, .ref (g 0)), (1, .int (nI i)), (2, .int lo), (3, .int hi9)]) hx hb dX4_count_16 hl (by decide) rfl (fun ls hl => ?_)
  have key18 : ∀ (d18 : Nat) (k : Nat) (hk : k ≤ 4), 4 - k < d18 → ∀ (H : Heap) (locs : List Loc) (ls : Array Slot), va_P D vwCl (wM ct g n dc pa va dl ge su mk dp sq tc kp (gof true true true)) H → va_D A (wM ct g n dc pa va dl ge su mk dp sq tc kp (gof true true true)) → va_S A s.heap H locs → lv_has ls 8 [(6, .int (nI k)), (5, .int (bI true)), (4, .int (nI (fct (ctC (shM pa mk dc dl ge su va i n) lo hi9) k))), (0, .ref (g 0)), (1, .int (nI i)), (2, .int lo), (3, .int hi9)] → W p l e ({ frames := 5, cells := 0, slots := 0, locals := 117 } : Room) s m ([.ref (g 0), .int (nI i), .int lo, .int hi9] : List Value).toArray below meth c H locs 0 0 (MQ below (wqI D (nI (fct (ctC (shM pa mk dc dl ge su va i n) lo hi9) 4)) (wM ct g n dc pa va dl ge su mk dp sq tc kp (nI 0)) A) ([.ref (g 0), .int (nI i), .int lo, .int hi9] : List Value).toArray s 0 0 A) (F0 m 18 ls []) := by
    intro d18
    induction d18 with
    | zero => intro k hk h9; exact absurd h9 (Nat.not_lt_zero _)
    | succ d18 ih18 =>
      intro k hk hm18 H locs ls hP hD hS hl
      refine lv_iload hx hb dX4_count_18 (lv_at hl 0 rfl) ?_
      refine lv_iconst (v := nI 4) hx hb dX4_count_20 (by decide) ?_
      refine r_icmp_geN hx hb (x := k) (y := 4) (by first | omega | decide) (by first | omega | decide) (tgt := 72) dX4_count_21 (by decide) (fun c21 => ?_) (fun c21 => ?_)
      · refine lv_iload hx hb dX4_count_72 (lv_at hl 2 rfl) ?_
        refine r_top (y := nI (fct (ctC (shM pa mk dc dl ge su va i n) lo hi9) 4)) (congrArg nI (show (fct (ctC (shM pa mk dc dl ge su va i n) lo hi9) k) = (fct (ctC (shM pa mk dc dl ge su va i n) lo hi9) 4) from by rw [show k = 4 by omega])) ?_
        have e9 : (gof true true true) = (nI 0) := rfl
        have hP := (congrArg (fun z9 => va_P D vwCl (wM ct g n dc pa va dl ge su mk dp sq tc kp z9) H) e9).mp hP
        have hP : va_P D vwCl (wM ct g n dc pa va dl ge su mk dp sq tc kp (nI 0)) H := hP
        exact W.iret hx hb hr (fun t ht hW => ⟨⟨_, (), rfl, rfl, by show va_P D vwCl _ t.heap; rw [ht]; exact hP⟩, hS.F ht⟩) hS.2.2 dX4_count_74
      · refine lv_iload hx hb dX4_count_24 (lv_at hl 1 rfl) ?_
        refine r_if_eqB (x := true) (tgt := 72) hx hb dX4_count_26 (by decide) (fun c26 => by cases c26) (fun c26 => ?_)
        refine lv_aload_n hx hb dX4_count_29 rfl (lv_at hl 3 rfl) ?_
        refine lv_iload_n hx hb dX4_count_30 rfl (lv_at hl 4 rfl) ?_
        refine lv_iload hx hb dX4_count_31 (lv_at hl 0 rfl) ?_
        refine r_cV (As := [.int (nI i), .int (nI k)]) (rest := []) ⟨hx, hb, hml, hown, hts⟩ (cX4_shown_ok l D ct g n dc pa va dl ge su mk dp sq tc kp (gof true true true) i k (by first | assumption | omega) (by first | assumption | omega) (by first | assumption | omega) (by first | assumption | omega) (by first | assumption | omega) (by first | assumption | omega)) (cwV 2 hts gX4_count_X4_shown rfl rfl rfl (by decide +kernel) ⟨Nat.le_of_ble_eq_true rfl, Nat.le_of_ble_eq_true rfl⟩) hK (hP.sub (ws' := wM ct g n dc pa va dl ge su mk dp sq tc kp (gof true true true)) [0, 1, 2, 3, 4, 5, 6, 7, 8, 9, 10, 11] rfl) 0 4 rfl rfl rfl hl.1 rfl (Nat.le_of_ble_eq_true rfl) dX4_count_33 ⟨Nat.le_of_ble_eq_true rfl, Nat.le_of_ble_eq_true rfl⟩ ?_
        refine lv_istore (lv' := [(7, .int (shM pa mk dc dl ge su va i n k)), (6, .int (nI k)), (5, .int (bI true)), (4, .int (nI (fct (ctC (shM pa mk dc dl ge su va i n) lo hi9) k))), (0, .ref (g 0)), (1, .int (nI i)), (2, .int lo), (3, .int hi9)]) hx hb dX4_count_36 hl (by decide) rfl (fun ls hl => ?_)
        refine lv_iload hx hb dX4_count_38 (lv_at hl 3 rfl) ?_
        refine lv_iload hx hb dX4_count_40 (lv_at hl 0 rfl) ?_
        refine lv_iconst (v := -1) hx hb dX4_count_42 (by decide) ?_
        refine lv_icmp_eq (x := shM pa mk dc dl ge su va i n k) (y := -1) (tgt := 62) hx hb dX4_count_43 (by decide) (fun c43 => ?_) (fun c43 => ?_)
        · refine lv_iconst (v := nI 0) hx hb dX4_count_62 (by decide) ?_
          refine r_iaddN hx hb dX4_count_63 ?_
          refine lv_istore (lv' := [(4, .int (nI ((fct (ctC (shM pa mk dc dl ge su va i n) lo hi9) k) + 0))), (7, .int (shM pa mk dc dl ge su va i n k)), (6, .int (nI k)), (5, .int (bI true)), (0, .ref (g 0)), (1, .int (nI i)), (2, .int lo), (3, .int hi9)]) hx hb dX4_count_64 hl (by decide) rfl (fun ls hl => ?_)
          refine lv_iinc (v := nI (k + 1)) (lv' := [(6, .int (nI (k + 1))), (4, .int (nI ((fct (ctC (shM pa mk dc dl ge su va i n) lo hi9) k) + 0))), (7, .int (shM pa mk dc dl ge su va i n k)), (5, .int (bI true)), (0, .ref (g 0)), (1, .int (nI i)), (2, .int lo), (3, .int hi9)]) hx hb dX4_count_66 hl (k := 2) rfl (nI_1 _) (by decide) rfl (fun ls hl => ?_)
          refine lv_goto (tgt := 18) hx hb dX4_count_69 (by decide) ?_
          have hl := lv_re (f := fun z9 => [(6, .int (nI (k + 1))), (4, .int z9), (7, .int (shM pa mk dc dl ge su va i n k)), (5, .int (bI true)), (0, .ref (g 0)), (1, .int (nI i)), (2, .int lo), (3, .int hi9)]) hl (show nI ((fct (ctC (shM pa mk dc dl ge su va i n) lo hi9) k) + 0) = nI (fct (ctC (shM pa mk dc dl ge su va i n) lo hi9) (k + 1)) from congrArg nI (show ((fct (ctC (shM pa mk dc dl ge su va i n) lo hi9) k) + 0) = (fct (ctC (shM pa mk dc dl ge su va i n) lo hi9) (k + 1)) from by simp [fct, ctC, c21, c26, c43]))
          exact ih18 (k + 1) (by first | assumption | omega) (by omega) H locs ls hP hD hS (lv_sub hl [0, 3, 1, 4, 5, 6, 7] rfl)
        · refine lv_iload hx hb dX4_count_46 (lv_at hl 0 rfl) ?_
          refine lv_iload_n hx hb dX4_count_48 rfl (lv_at hl 6 rfl) ?_
          refine lv_icmp_lt (x := shM pa mk dc dl ge su va i n k) (y := lo) (tgt := 62) hx hb dX4_count_49 (by decide) (fun c49 => ?_) (fun c49 => ?_)
          · refine lv_iconst (v := nI 0) hx hb dX4_count_62 (by decide) ?_
            refine r_iaddN hx hb dX4_count_63 ?_
            refine lv_istore (lv' := [(4, .int (nI ((fct (ctC (shM pa mk dc dl ge su va i n) lo hi9) k) + 0))), (7, .int (shM pa mk dc dl ge su va i n k)), (6, .int (nI k)), (5, .int (bI true)), (0, .ref (g 0)), (1, .int (nI i)), (2, .int lo), (3, .int hi9)]) hx hb dX4_count_64 hl (by decide) rfl (fun ls hl => ?_)
            refine lv_iinc (v := nI (k + 1)) (lv' := [(6, .int (nI (k + 1))), (4, .int (nI ((fct (ctC (shM pa mk dc dl ge su va i n) lo hi9) k) + 0))), (7, .int (shM pa mk dc dl ge su va i n k)), (5, .int (bI true)), (0, .ref (g 0)), (1, .int (nI i)), (2, .int lo), (3, .int hi9)]) hx hb dX4_count_66 hl (k := 2) rfl (nI_1 _) (by decide) rfl (fun ls hl => ?_)
            refine lv_goto (tgt := 18) hx hb dX4_count_69 (by decide) ?_
            have hl := lv_re (f := fun z9 => [(6, .int (nI (k + 1))), (4, .int z9), (7, .int (shM pa mk dc dl ge su va i n k)), (5, .int (bI true)), (0, .ref (g 0)), (1, .int (nI i)), (2, .int lo), (3, .int hi9)]) hl (show nI ((fct (ctC (shM pa mk dc dl ge su va i n) lo hi9) k) + 0) = nI (fct (ctC (shM pa mk dc dl ge su va i n) lo hi9) (k + 1)) from congrArg nI (show ((fct (ctC (shM pa mk dc dl ge su va i n) lo hi9) k) + 0) = (fct (ctC (shM pa mk dc dl ge su va i n) lo hi9) (k + 1)) from by simp [fct, ctC, c21, c26, c43, c49]))
            exact ih18 (k + 1) (by first | assumption | omega) (by omega) H locs ls hP hD hS (lv_sub hl [0, 3, 1, 4, 5, 6, 7] rfl)
          · refine lv_iload hx hb dX4_count_52 (lv_at hl 0 rfl) ?_
            refine lv_iload_n hx hb dX4_count_54 rfl (lv_at hl 7 rfl) ?_
            refine lv_icmp_gt (x := shM pa mk dc dl ge su va i n k) (y := hi9) (tgt := 62) hx hb dX4_count_55 (by decide) (fun c55 => ?_) (fun c55 => ?_)
            · refine lv_iconst (v := nI 0) hx hb dX4_count_62 (by decide) ?_
              refine r_iaddN hx hb dX4_count_63 ?_
              refine lv_istore (lv' := [(4, .int (nI ((fct (ctC (shM pa mk dc dl ge su va i n) lo hi9) k) + 0))), (7, .int (shM pa mk dc dl ge su va i n k)), (6, .int (nI k)), (5, .int (bI true)), (0, .ref (g 0)), (1, .int (nI i)), (2, .int lo), (3, .int hi9)]) hx hb dX4_count_64 hl (by decide) rfl (fun ls hl => ?_)
              refine lv_iinc (v := nI (k + 1)) (lv' := [(6, .int (nI (k + 1))), (4, .int (nI ((fct (ctC (shM pa mk dc dl ge su va i n) lo hi9) k) + 0))), (7, .int (shM pa mk dc dl ge su va i n k)), (5, .int (bI true)), (0, .ref (g 0)), (1, .int (nI i)), (2, .int lo), (3, .int hi9)]) hx hb dX4_count_66 hl (k := 2) rfl (nI_1 _) (by decide) rfl (fun ls hl => ?_)
              refine lv_goto (tgt := 18) hx hb dX4_count_69 (by decide) ?_
              have hl := lv_re (f := fun z9 => [(6, .int (nI (k + 1))), (4, .int z9), (7, .int (shM pa mk dc dl ge su va i n k)), (5, .int (bI true)), (0, .ref (g 0)), (1, .int (nI i)), (2, .int lo), (3, .int hi9)]) hl (show nI ((fct (ctC (shM pa mk dc dl ge su va i n) lo hi9) k) + 0) = nI (fct (ctC (shM pa mk dc dl ge su va i n) lo hi9) (k + 1)) from congrArg nI (show ((fct (ctC (shM pa mk dc dl ge su va i n) lo hi9) k) + 0) = (fct (ctC (shM pa mk dc dl ge su va i n) lo hi9) (k + 1)) from by simp [fct, ctC, c21, c26, c43, c49, c55]))
              exact ih18 (k + 1) (by first | assumption | omega) (by omega) H locs ls hP hD hS (lv_sub hl [0, 3, 1, 4, 5, 6, 7] rfl)
            · refine lv_iconst (v := nI 1) hx hb dX4_count_58 (by decide) ?_
              refine lv_goto (tgt := 63) hx hb dX4_count_59 (by decide) ?_
              refine r_iaddN hx hb dX4_count_63 ?_
              refine lv_istore (lv' := [(4, .int (nI ((fct (ctC (shM pa mk dc dl ge su va i n) lo hi9) k) + 1))), (7, .int (shM pa mk dc dl ge su va i n k)), (6, .int (nI k)), (5, .int (bI true)), (0, .ref (g 0)), (1, .int (nI i)), (2, .int lo), (3, .int hi9)]) hx hb dX4_count_64 hl (by decide) rfl (fun ls hl => ?_)
              refine lv_iinc (v := nI (k + 1)) (lv' := [(6, .int (nI (k + 1))), (4, .int (nI ((fct (ctC (shM pa mk dc dl ge su va i n) lo hi9) k) + 1))), (7, .int (shM pa mk dc dl ge su va i n k)), (5, .int (bI true)), (0, .ref (g 0)), (1, .int (nI i)), (2, .int lo), (3, .int hi9)]) hx hb dX4_count_66 hl (k := 2) rfl (nI_1 _) (by decide) rfl (fun ls hl => ?_)
              refine lv_goto (tgt := 18) hx hb dX4_count_69 (by decide) ?_
              have hl := lv_re (f := fun z9 => [(6, .int (nI (k + 1))), (4, .int z9), (7, .int (shM pa mk dc dl ge su va i n k)), (5, .int (bI true)), (0, .ref (g 0)), (1, .int (nI i)), (2, .int lo), (3, .int hi9)]) hl (show nI ((fct (ctC (shM pa mk dc dl ge su va i n) lo hi9) k) + 1) = nI (fct (ctC (shM pa mk dc dl ge su va i n) lo hi9) (k + 1)) from congrArg nI (show ((fct (ctC (shM pa mk dc dl ge su va i n) lo hi9) k) + 1) = (fct (ctC (shM pa mk dc dl ge su va i n) lo hi9) (k + 1)) from by simp [fct, ctC, c21, c26, c43, c49, c55]))
              exact ih18 (k + 1) (by first | assumption | omega) (by omega) H locs ls hP hD hS (lv_sub hl [0, 3, 1, 4, 5, 6, 7] rfl)
  have hl := lv_re (f := fun z9 => [(6, .int (nI 0)), (5, .int (bI true)), (4, .int z9), (0, .ref (g 0)), (1, .int (nI i)), (2, .int lo), (3, .int hi9)]) hl (show nI 0 = nI (fct (ctC (shM pa mk dc dl ge su va i n) lo hi9) 0) from congrArg nI (show 0 = (fct (ctC (shM pa mk dc dl ge su va i n) lo hi9) 0) from rfl))
  exact key18 ((4 - 0) + 1) 0 (by first | assumption | omega) (Nat.lt_succ_self _) H locs ls hP hD hS (lv_sub hl [0, 1, 2, 3, 4, 5, 6] rfl)
set_option maxHeartbeats 8000000 in
set_option maxRecDepth 100000 in
theorem cX4_count_bad (l : Launch) (D : va_G) (ct : Nat → ClassId) (g : Nat → Nat) (n : Nat) (dc : Nat → Nat) (pa : Nat → Option Nat) (va : Nat → Int32) (dl : Nat → Bool) (ge : Nat → Nat) (su : Nat → Int32) (mk : Nat → Bool) (dp : Nat → Int32) (sq : Nat → Int32) (tc : Nat → Int32) (kp : Nat → Int32) (la : Int32) (p0 : Int32) (p1 : Int32) (p2 : Int32) (hbad : inn p0 (nI 0) (nI 2) = false) (sz : Nat) : Met l yX4_count wsX4_count ({ frames := 5, cells := 0, slots := 0, locals := 117 } : Room) (wrPc D ct [.ref (g 0), .int p0, .int p1, .int p2] (wM ct g n dc pa va dl ge su mk dp sq tc kp la) sz) (wqI D (nI 0) (wM ct g n dc pa va dl ge su mk dp sq tc kp (nI 1)) (va_A (wM ct g n dc pa va dl ge su mk dp sq tc kp la) sz)) 0 0 (va_A (wM ct g n dc pa va dl ge su mk dp sq tc kp la) sz) := by
  refine Met.ofW (cc := cX4_count) (maxL := 8) (ret := (some .int)) (by decide) rfl ?_
  intro p e s m args below meth c s₁ B hml hv
  obtain ⟨rfl, hsz, hP, hK, hD0⟩ := hv
  have hx := B.exec
  have hb := B.bytes
  have hr := B.returns
  have hts := atoms_spec (ws := wsX4_count) B.pre
  have hown : s.vm.findClass RX4 = some m.cls := findClass_of_methodNamed B.named
  have hlocks := B.notSynchronized
  subst hsz
  have hD := hD0.self (sz := s.heap.size)
  generalize hAe : va_A (wM ct g n dc pa va dl ge su mk dp sq tc kp la) s.heap.size = A at hD ⊢
  have hA : ∀ q : Nat, s.heap.size ≤ q → A q := fun q h => by rw [← hAe]; exact Or.inr h
  have hS : va_S A s.heap s.heap [] := va_S.rf
  have hP : va_P D vwCl (wM ct g n dc pa va dl ge su mk dp sq tc kp la) s.heap := hP
  clear hAe hD0
  have hl := lv_entry ([.ref (g 0), .int p0, .int p1, .int p2]) (n := 8) (Nat.le_of_ble_eq_true rfl)
  rw [lg_entry_eq]
  generalize (lg_sl ([.ref (g 0), .int p0, .int p1, .int p2]) ++ List.replicate (8 - (lg_sl ([.ref (g 0), .int p0, .int p1, .int p2])).length) Slot.unset).toArray = ls at hl ⊢
  have hl : lv_has ls 8 [(0, .ref (g 0)), (1, .int p0), (2, .int p1), (3, .int p2)] := hl
  have hH0 : s.heap.size ≤ s.heap.size := Nat.le_refl _
  refine lv_iconst (v := nI 0) hx hb dX4_count_0 (by decide) ?_
  refine lv_istore (lv' := [(4, .int (nI 0)), (0, .ref (g 0)), (1, .int p0), (2, .int p1), (3, .int p2)]) hx hb dX4_count_1 hl (by decide) rfl (fun ls hl => ?_)
  refine lv_aload_n hx hb dX4_count_3 rfl (lv_at hl 1 rfl) ?_
  refine lv_iload_n hx hb dX4_count_4 rfl (lv_at hl 2 rfl) ?_
  refine r_cS (As := [.int p0]) (rest := [.ref (g 0)]) ⟨hx, hb, hml, hown, hts⟩ (cX4_isStore_ok l D ct p0 ) (va_cwS 1 hts gX4_count_X4_isStore rfl rfl rfl (by decide +kernel) ⟨Nat.le_of_ble_eq_true rfl, Nat.le_of_ble_eq_true rfl⟩) hK va_Pnil rfl hl.1 rfl (Nat.le_of_ble_eq_true rfl) dX4_count_5 ⟨Nat.le_of_ble_eq_true rfl, Nat.le_of_ble_eq_true rfl⟩ ?_
  refine r_top (y := bI false) (congrArg bI (show (inn p0 (nI 0) (nI 2)) = false from hbad)) ?_
  refine lv_iconst (v := nI 1) hx hb dX4_count_8 (by decide) ?_
  refine lv_iconst (v := nI 1) hx hb dX4_count_9 (by decide) ?_
  refine r_wVi (As := [.int (bI false), .int (bI true), .int (bI true)]) (rest := []) ⟨hx, hb, hml, hown, hts⟩ (cX4_goes_ok l D ct g n dc pa va dl ge su mk dp sq tc kp la false true true  s.heap.size) (cwV 3 hts gX4_count_X4_goes rfl rfl rfl (by decide +kernel) ⟨Nat.le_of_ble_eq_true rfl, Nat.le_of_ble_eq_true rfl⟩) hK hP hD hS hA [0, 1, 2, 3, 4, 5, 6, 7, 8, 9, 10, 11] rfl rfl rfl 0 4 rfl rfl rfl hl.1 rfl (Nat.le_of_ble_eq_true rfl) dX4_count_10 ⟨Nat.le_of_ble_eq_true rfl, Nat.le_of_ble_eq_true rfl⟩ (fun H locs hP hD hS => ?_)
  have hP : va_P D vwCl (wM ct g n dc pa va dl ge su mk dp sq tc kp (gof false true true)) H := hP
  have hD : va_D A (wM ct g n dc pa va dl ge su mk dp sq tc kp (gof false true true)) := hD
  refine r_top (y := bI false) (congrArg bI (show (false && (true && true)) = false from rfl)) ?_
  refine lv_istore (lv' := [(5, .int (bI false)), (4, .int (nI 0)), (0, .ref (g 0)), (1, .int p0), (2, .int p1), (3, .int p2)]) hx hb dX4_count_13 hl (by decide) rfl (fun ls hl => ?_)
  refine lv_iconst (v := nI 0) hx hb dX4_count_15 (by decide) ?_
  refine lv_istore (lv' := [(6, .int (nI 0)), (5, .int (bI false)), (4, .int (nI 0)), (0, .ref (g 0)), (1, .int p0), (2, .int p1), (3, .int p2)]) hx hb dX4_count_16 hl (by decide) rfl (fun ls hl => ?_)
  have key18 : ∀ (d18 : Nat)  , 0 < d18 → ∀ (H : Heap) (locs : List Loc) (ls : Array Slot), va_P D vwCl (wM ct g n dc pa va dl ge su mk dp sq tc kp (gof false true true)) H → va_D A (wM ct g n dc pa va dl ge su mk dp sq tc kp (gof false true true)) → va_S A s.heap H locs → lv_has ls 8 [(6, .int (nI 0)), (5, .int (bI false)), (4, .int (nI 0)), (0, .ref (g 0)), (1, .int p0), (2, .int p1), (3, .int p2)] → W p l e ({ frames := 5, cells := 0, slots := 0, locals := 117 } : Room) s m ([.ref (g 0), .int p0, .int p1, .int p2] : List Value).toArray below meth c H locs 0 0 (MQ below (wqI D (nI 0) (wM ct g n dc pa va dl ge su mk dp sq tc kp (nI 1)) A) ([.ref (g 0), .int p0, .int p1, .int p2] : List Value).toArray s 0 0 A) (F0 m 18 ls []) := by
    intro d18
    induction d18 with
    | zero => intro   h9; exact absurd h9 (Nat.not_lt_zero _)
    | succ d18 ih18 =>
      intro   hm18 H locs ls hP hD hS hl
      refine lv_iload hx hb dX4_count_18 (lv_at hl 0 rfl) ?_
      refine lv_iconst (v := nI 4) hx hb dX4_count_20 (by decide) ?_
      refine r_icmp_geN hx hb (x := 0) (y := 4) (by first | omega | decide) (by first | omega | decide) (tgt := 72) dX4_count_21 (by decide) (fun c21 => ?_) (fun c21 => ?_)
      · refine lv_iload hx hb dX4_count_72 (lv_at hl 2 rfl) ?_
        have e9 : (gof false true true) = (nI 1) := rfl
        have hP := (congrArg (fun z9 => va_P D vwCl (wM ct g n dc pa va dl ge su mk dp sq tc kp z9) H) e9).mp hP
        have hP : va_P D vwCl (wM ct g n dc pa va dl ge su mk dp sq tc kp (nI 1)) H := hP
        exact W.iret hx hb hr (fun t ht hW => ⟨⟨_, (), rfl, rfl, by show va_P D vwCl _ t.heap; rw [ht]; exact hP⟩, hS.F ht⟩) hS.2.2 dX4_count_74
      · refine lv_iload hx hb dX4_count_24 (lv_at hl 1 rfl) ?_
        refine r_if_eqB (x := false) (tgt := 72) hx hb dX4_count_26 (by decide) (fun c26 => ?_) (fun c26 => by cases c26)
        refine lv_iload hx hb dX4_count_72 (lv_at hl 2 rfl) ?_
        have e9 : (gof false true true) = (nI 1) := rfl
        have hP := (congrArg (fun z9 => va_P D vwCl (wM ct g n dc pa va dl ge su mk dp sq tc kp z9) H) e9).mp hP
        have hP : va_P D vwCl (wM ct g n dc pa va dl ge su mk dp sq tc kp (nI 1)) H := hP
        exact W.iret hx hb hr (fun t ht hW => ⟨⟨_, (), rfl, rfl, by show va_P D vwCl _ t.heap; rw [ht]; exact hP⟩, hS.F ht⟩) hS.2.2 dX4_count_74
  exact key18 (0 + 1)   (Nat.lt_succ_self _) H locs ls hP hD hS (lv_sub hl [0, 1, 2, 3, 4, 5, 6] rfl)
set_option maxHeartbeats 8000000 in
set_option maxRecDepth 100000 in
theorem cX4_placed_ok (l : Launch) (D : va_G) (ct : Nat → ClassId) (g : Nat → Nat) (n : Nat) (dc : Nat → Nat) (pa : Nat → Option Nat) (va : Nat → Int32) (dl : Nat → Bool) (ge : Nat → Nat) (su : Nat → Int32) (mk : Nat → Bool) (dp : Nat → Int32) (sq : Nat → Int32) (tc : Nat → Int32) (kp : Nat → Int32) (la : Int32) (i : Nat) (x : Int32) (hn : n ≤ 150) (hTd : ∀ k, dc k < 4) (hTg : ∀ k, ge k ≤ 150) (hTp : ∀ k j, k < n → pa k = some j → j < k) (hi : i < 3) : Met l yX4_placed wsX4_placed ({ frames := 5, cells := 0, slots := 0, locals := 117 } : Room) (roPc D ct [.ref (g 0), .int (nI i), .int x] (wM ct g n dc pa va dl ge su mk dp sq tc kp la)) (rqI (eP (ffd (plC (shM pa mk dc dl ge su va i n) x) 4))) 0 0 (fun _ => False) := by
  refine Met.ofW (cc := cX4_placed) (maxL := 7) (ret := (some .int)) (by decide) rfl ?_
  intro p e s m args below meth c s₁ B hml hv
  obtain ⟨rfl, hP, hK⟩ := hv
  have hx := B.exec
  have hb := B.bytes
  have hr := B.returns
  have hts := atoms_spec (ws := wsX4_placed) B.pre
  have hown : s.vm.findClass RX4 = some m.cls := findClass_of_methodNamed B.named
  have hlocks := B.notSynchronized
  have hl := lv_entry ([.ref (g 0), .int (nI i), .int x]) (n := 7) (Nat.le_of_ble_eq_true rfl)
  rw [lg_entry_eq]
  generalize (lg_sl ([.ref (g 0), .int (nI i), .int x]) ++ List.replicate (7 - (lg_sl ([.ref (g 0), .int (nI i), .int x])).length) Slot.unset).toArray = ls at hl ⊢
  have hl : lv_has ls 7 [(0, .ref (g 0)), (1, .int (nI i)), (2, .int x)] := hl
  refine lv_iconst (v := nI 0) hx hb dX4_placed_0 (by decide) ?_
  refine lv_istore_n (lv' := [(3, .int (nI 0)), (0, .ref (g 0)), (1, .int (nI i)), (2, .int x)]) hx hb dX4_placed_1 rfl hl (by decide) rfl (fun ls hl => ?_)
  have key2 : ∀ (d2 : Nat) (k : Nat) (hk : k ≤ 4) (hno : ffd (plC (shM pa mk dc dl ge su va i n) x) k = none), 4 - k < d2 → ∀  (ls : Array Slot), lv_has ls 7 [(3, .int (nI k)), (0, .ref (g 0)), (1, .int (nI i)), (2, .int x)] → W p l e ({ frames := 5, cells := 0, slots := 0, locals := 117 } : Room) s m ([.ref (g 0), .int (nI i), .int x] : List Value).toArray below meth c s.heap [] 0 0 (MQ below (rqI (eP (ffd (plC (shM pa mk dc dl ge su va i n) x) 4))) ([.ref (g 0), .int (nI i), .int x] : List Value).toArray s 0 0 (fun _ => False)) (F0 m 2 ls []) := by
    intro d2
    induction d2 with
    | zero => intro k hk hno h9; exact absurd h9 (Nat.not_lt_zero _)
    | succ d2 ih2 =>
      intro k hk hno hm2  ls  hl
      refine lv_iload_n hx hb dX4_placed_2 rfl (lv_at hl 0 rfl) ?_
      refine lv_iconst (v := nI 4) hx hb dX4_placed_3 (by decide) ?_
      refine r_icmp_geN hx hb (x := k) (y := 4) (by first | omega | decide) (by first | omega | decide) (tgt := 120) dX4_placed_4 (by decide) (fun c4 => ?_) (fun c4 => ?_)
      · refine lv_iconst (v := -1) hx hb dX4_placed_120 (by decide) ?_
        refine r_top (y := eP (ffd (plC (shM pa mk dc dl ge su va i n) x) 4)) (congrArg eP (show none = (ffd (plC (shM pa mk dc dl ge su va i n) x) 4) from by first | exact (ffd_hit (n := 4) hno (by simp [plC, c4]) (by omega)).symm | (rw [show (4 : Nat) = k by omega, hno]))) ?_
        exact W.iret hx hb hr (fun t ht hW => ⟨_, rfl, rfl, ht⟩) (fun _ h => by cases h) dX4_placed_121
      · refine lv_iconst (v := nI 0) hx hb dX4_placed_7 (by decide) ?_
        refine lv_istore (lv' := [(4, .int (nI 0)), (3, .int (nI k)), (0, .ref (g 0)), (1, .int (nI i)), (2, .int x)]) hx hb dX4_placed_8 hl (by decide) rfl (fun ls hl => ?_)
        refine lv_iconst (v := nI 0) hx hb dX4_placed_10 (by decide) ?_
        refine lv_istore (lv' := [(5, .int (nI 0)), (4, .int (nI 0)), (3, .int (nI k)), (0, .ref (g 0)), (1, .int (nI i)), (2, .int x)]) hx hb dX4_placed_11 hl (by decide) rfl (fun ls hl => ?_)
        have key13 : ∀ (d13 : Nat) (q : Nat) (hq : q ≤ 4), 4 - q < d13 → ∀  (ls : Array Slot), lv_has ls 7 [(5, .int (nI q)), (4, .int (nI (fct (bfC (shM pa mk dc dl ge su va i n) (shM pa mk dc dl ge su va i n k) k) q))), (3, .int (nI k)), (0, .ref (g 0)), (1, .int (nI i)), (2, .int x)] → W p l e ({ frames := 5, cells := 0, slots := 0, locals := 117 } : Room) s m ([.ref (g 0), .int (nI i), .int x] : List Value).toArray below meth c s.heap [] 0 0 (MQ below (rqI (eP (ffd (plC (shM pa mk dc dl ge su va i n) x) 4))) ([.ref (g 0), .int (nI i), .int x] : List Value).toArray s 0 0 (fun _ => False)) (F0 m 13 ls []) := by
          intro d13
          induction d13 with
          | zero => intro q hq h9; exact absurd h9 (Nat.not_lt_zero _)
          | succ d13 ih13 =>
            intro q hq hm13  ls  hl
            refine lv_iload hx hb dX4_placed_13 (lv_at hl 0 rfl) ?_
            refine lv_iconst (v := nI 4) hx hb dX4_placed_15 (by decide) ?_
            refine r_icmp_geN hx hb (x := q) (y := 4) (by first | omega | decide) (by first | omega | decide) (tgt := 96) dX4_placed_16 (by decide) (fun c16 => ?_) (fun c16 => ?_)
            · have hl := lv_re (f := fun z9 => [(5, .int (nI q)), (4, .int z9), (3, .int (nI k)), (0, .ref (g 0)), (1, .int (nI i)), (2, .int x)]) hl (show nI (fct (bfC (shM pa mk dc dl ge su va i n) (shM pa mk dc dl ge su va i n k) k) q) = nI (fct (bfC (shM pa mk dc dl ge su va i n) (shM pa mk dc dl ge su va i n k) k) 4) from congrArg nI (show (fct (bfC (shM pa mk dc dl ge su va i n) (shM pa mk dc dl ge su va i n k) k) q) = (fct (bfC (shM pa mk dc dl ge su va i n) (shM pa mk dc dl ge su va i n k) k) 4) from by rw [show q = 4 by omega]))
              refine lv_aload_n hx hb dX4_placed_96 rfl (lv_at hl 3 rfl) ?_
              refine lv_iload_n hx hb dX4_placed_97 rfl (lv_at hl 4 rfl) ?_
              refine lv_iload_n hx hb dX4_placed_98 rfl (lv_at hl 2 rfl) ?_
              refine r_cV (As := [.int (nI i), .int (nI k)]) (rest := []) ⟨hx, hb, hml, hown, hts⟩ (cX4_shown_ok l D ct g n dc pa va dl ge su mk dp sq tc kp la i k (by first | assumption | omega) (by first | assumption | omega) (by first | assumption | omega) (by first | assumption | omega) (by first | assumption | omega) (by first | assumption | omega)) (cwV 2 hts gX4_placed_X4_shown rfl rfl rfl (by decide +kernel) ⟨Nat.le_of_ble_eq_true rfl, Nat.le_of_ble_eq_true rfl⟩) hK (hP.sub (ws' := wM ct g n dc pa va dl ge su mk dp sq tc kp la) [0, 1, 2, 3, 4, 5, 6, 7, 8, 9, 10, 11] rfl) 0 4 rfl rfl rfl hl.1 rfl (Nat.le_of_ble_eq_true rfl) dX4_placed_99 ⟨Nat.le_of_ble_eq_true rfl, Nat.le_of_ble_eq_true rfl⟩ ?_
              refine lv_iconst (v := -1) hx hb dX4_placed_102 (by decide) ?_
              refine lv_icmp_eq (x := shM pa mk dc dl ge su va i n k) (y := -1) (tgt := 114) hx hb dX4_placed_103 (by decide) (fun c103 => ?_) (fun c103 => ?_)
              · refine lv_iinc (v := nI (k + 1)) (lv' := [(3, .int (nI (k + 1))), (5, .int (nI q)), (4, .int (nI (fct (bfC (shM pa mk dc dl ge su va i n) (shM pa mk dc dl ge su va i n k) k) 4))), (0, .ref (g 0)), (1, .int (nI i)), (2, .int x)]) hx hb dX4_placed_114 hl (k := 2) rfl (nI_1 _) (by decide) rfl (fun ls hl => ?_)
                refine lv_goto (tgt := 2) hx hb dX4_placed_117 (by decide) ?_
                exact ih2 (k + 1) (by first | assumption | omega) (ffd_no hno (by simp [plC, c4, c16, c103])) (by omega)  ls  (lv_sub hl [0, 3, 4, 5] rfl)
              · refine lv_iload hx hb dX4_placed_106 (lv_at hl 1 rfl) ?_
                refine lv_iload_n hx hb dX4_placed_108 rfl (lv_at hl 5 rfl) ?_
                refine lv_icmp_ne (x := nI (fct (bfC (shM pa mk dc dl ge su va i n) (shM pa mk dc dl ge su va i n k) k) 4)) (y := x) (tgt := 114) hx hb dX4_placed_109 (by decide) (fun c109 => ?_) (fun c109 => ?_)
                · refine lv_iinc (v := nI (k + 1)) (lv' := [(3, .int (nI (k + 1))), (5, .int (nI q)), (4, .int (nI (fct (bfC (shM pa mk dc dl ge su va i n) (shM pa mk dc dl ge su va i n k) k) 4))), (0, .ref (g 0)), (1, .int (nI i)), (2, .int x)]) hx hb dX4_placed_114 hl (k := 2) rfl (nI_1 _) (by decide) rfl (fun ls hl => ?_)
                  refine lv_goto (tgt := 2) hx hb dX4_placed_117 (by decide) ?_
                  exact ih2 (k + 1) (by first | assumption | omega) (ffd_no hno (by simp [plC, c4, c16, c103, c109])) (by omega)  ls  (lv_sub hl [0, 3, 4, 5] rfl)
                · refine lv_iload_n hx hb dX4_placed_112 rfl (lv_at hl 2 rfl) ?_
                  refine r_top (y := eP (ffd (plC (shM pa mk dc dl ge su va i n) x) 4)) (congrArg eP (show some k = (ffd (plC (shM pa mk dc dl ge su va i n) x) 4) from by first | exact (ffd_hit (n := 4) hno (by simp [plC, c4, c16, c103, c109]) (by omega)).symm | (rw [show (4 : Nat) = k by omega, hno]))) ?_
                  exact W.iret hx hb hr (fun t ht hW => ⟨_, rfl, rfl, ht⟩) (fun _ h => by cases h) dX4_placed_113
            · have jn62 : ∀  (ls : Array Slot), lv_has ls 7 [(5, .int (nI q)), (4, .int (nI (fct (bfC (shM pa mk dc dl ge su va i n) (shM pa mk dc dl ge su va i n k) k) q))), (3, .int (nI k)), (0, .ref (g 0)), (1, .int (nI i)), (2, .int x)] → W p l e ({ frames := 5, cells := 0, slots := 0, locals := 117 } : Room) s m ([.ref (g 0), .int (nI i), .int x] : List Value).toArray below meth c s.heap [] 0 0 (MQ below (rqI (eP (ffd (plC (shM pa mk dc dl ge su va i n) x) 4))) ([.ref (g 0), .int (nI i), .int x] : List Value).toArray s 0 0 (fun _ => False)) (F0 m 62 ls [.int (bI (decide (shM pa mk dc dl ge su va i n q < shM pa mk dc dl ge su va i n k) || (decide (shM pa mk dc dl ge su va i n q = shM pa mk dc dl ge su va i n k) && decide (q < k))))]) := by
                intro  ls  hl
                refine lv_istore (lv' := [(6, .int (bI (decide (shM pa mk dc dl ge su va i n q < shM pa mk dc dl ge su va i n k) || (decide (shM pa mk dc dl ge su va i n q = shM pa mk dc dl ge su va i n k) && decide (q < k))))), (5, .int (nI q)), (4, .int (nI (fct (bfC (shM pa mk dc dl ge su va i n) (shM pa mk dc dl ge su va i n k) k) q))), (3, .int (nI k)), (0, .ref (g 0)), (1, .int (nI i)), (2, .int x)]) hx hb dX4_placed_62 hl (by decide) rfl (fun ls hl => ?_)
                refine lv_iload hx hb dX4_placed_64 (lv_at hl 2 rfl) ?_
                refine lv_aload_n hx hb dX4_placed_66 rfl (lv_at hl 4 rfl) ?_
                refine lv_iload_n hx hb dX4_placed_67 rfl (lv_at hl 5 rfl) ?_
                refine lv_iload hx hb dX4_placed_68 (lv_at hl 1 rfl) ?_
                refine r_cV (As := [.int (nI i), .int (nI q)]) (rest := [.int (nI (fct (bfC (shM pa mk dc dl ge su va i n) (shM pa mk dc dl ge su va i n k) k) q))]) ⟨hx, hb, hml, hown, hts⟩ (cX4_shown_ok l D ct g n dc pa va dl ge su mk dp sq tc kp la i q (by first | assumption | omega) (by first | assumption | omega) (by first | assumption | omega) (by first | assumption | omega) (by first | assumption | omega) (by first | assumption | omega)) (cwV 2 hts gX4_placed_X4_shown rfl rfl rfl (by decide +kernel) ⟨Nat.le_of_ble_eq_true rfl, Nat.le_of_ble_eq_true rfl⟩) hK (hP.sub (ws' := wM ct g n dc pa va dl ge su mk dp sq tc kp la) [0, 1, 2, 3, 4, 5, 6, 7, 8, 9, 10, 11] rfl) 0 4 rfl rfl rfl hl.1 rfl (Nat.le_of_ble_eq_true rfl) dX4_placed_70 ⟨Nat.le_of_ble_eq_true rfl, Nat.le_of_ble_eq_true rfl⟩ ?_
                refine lv_iconst (v := -1) hx hb dX4_placed_73 (by decide) ?_
                refine lv_icmp_eq (x := shM pa mk dc dl ge su va i n q) (y := -1) (tgt := 86) hx hb dX4_placed_74 (by decide) (fun c74 => ?_) (fun c74 => ?_)
                · refine lv_iconst (v := nI 0) hx hb dX4_placed_86 (by decide) ?_
                  refine r_iaddN hx hb dX4_placed_87 ?_
                  refine lv_istore (lv' := [(4, .int (nI ((fct (bfC (shM pa mk dc dl ge su va i n) (shM pa mk dc dl ge su va i n k) k) q) + 0))), (6, .int (bI (decide (shM pa mk dc dl ge su va i n q < shM pa mk dc dl ge su va i n k) || (decide (shM pa mk dc dl ge su va i n q = shM pa mk dc dl ge su va i n k) && decide (q < k))))), (5, .int (nI q)), (3, .int (nI k)), (0, .ref (g 0)), (1, .int (nI i)), (2, .int x)]) hx hb dX4_placed_88 hl (by decide) rfl (fun ls hl => ?_)
                  refine lv_iinc (v := nI (q + 1)) (lv' := [(5, .int (nI (q + 1))), (4, .int (nI ((fct (bfC (shM pa mk dc dl ge su va i n) (shM pa mk dc dl ge su va i n k) k) q) + 0))), (6, .int (bI (decide (shM pa mk dc dl ge su va i n q < shM pa mk dc dl ge su va i n k) || (decide (shM pa mk dc dl ge su va i n q = shM pa mk dc dl ge su va i n k) && decide (q < k))))), (3, .int (nI k)), (0, .ref (g 0)), (1, .int (nI i)), (2, .int x)]) hx hb dX4_placed_90 hl (k := 2) rfl (nI_1 _) (by decide) rfl (fun ls hl => ?_)
                  refine lv_goto (tgt := 13) hx hb dX4_placed_93 (by decide) ?_
                  have hl := lv_re (f := fun z9 => [(5, .int (nI (q + 1))), (4, .int z9), (6, .int (bI (decide (shM pa mk dc dl ge su va i n q < shM pa mk dc dl ge su va i n k) || (decide (shM pa mk dc dl ge su va i n q = shM pa mk dc dl ge su va i n k) && decide (q < k))))), (3, .int (nI k)), (0, .ref (g 0)), (1, .int (nI i)), (2, .int x)]) hl (show nI ((fct (bfC (shM pa mk dc dl ge su va i n) (shM pa mk dc dl ge su va i n k) k) q) + 0) = nI (fct (bfC (shM pa mk dc dl ge su va i n) (shM pa mk dc dl ge su va i n k) k) (q + 1)) from congrArg nI (show ((fct (bfC (shM pa mk dc dl ge su va i n) (shM pa mk dc dl ge su va i n k) k) q) + 0) = (fct (bfC (shM pa mk dc dl ge su va i n) (shM pa mk dc dl ge su va i n k) k) (q + 1)) from by simp [fct, bfC, c4, c16, c74]))
                  exact ih13 (q + 1) (by first | assumption | omega) (by omega)  ls  (lv_sub hl [0, 1, 3, 4, 5, 6] rfl)
                · refine lv_iload hx hb dX4_placed_77 (lv_at hl 0 rfl) ?_
                  refine r_if_eqB (x := decide (shM pa mk dc dl ge su va i n q < shM pa mk dc dl ge su va i n k) || (decide (shM pa mk dc dl ge su va i n q = shM pa mk dc dl ge su va i n k) && decide (q < k))) (tgt := 86) hx hb dX4_placed_79 (by decide) (fun c79 => ?_) (fun c79 => ?_)
                  · refine lv_iconst (v := nI 0) hx hb dX4_placed_86 (by decide) ?_
                    refine r_iaddN hx hb dX4_placed_87 ?_
                    refine lv_istore (lv' := [(4, .int (nI ((fct (bfC (shM pa mk dc dl ge su va i n) (shM pa mk dc dl ge su va i n k) k) q) + 0))), (6, .int (bI (decide (shM pa mk dc dl ge su va i n q < shM pa mk dc dl ge su va i n k) || (decide (shM pa mk dc dl ge su va i n q = shM pa mk dc dl ge su va i n k) && decide (q < k))))), (5, .int (nI q)), (3, .int (nI k)), (0, .ref (g 0)), (1, .int (nI i)), (2, .int x)]) hx hb dX4_placed_88 hl (by decide) rfl (fun ls hl => ?_)
                    refine lv_iinc (v := nI (q + 1)) (lv' := [(5, .int (nI (q + 1))), (4, .int (nI ((fct (bfC (shM pa mk dc dl ge su va i n) (shM pa mk dc dl ge su va i n k) k) q) + 0))), (6, .int (bI (decide (shM pa mk dc dl ge su va i n q < shM pa mk dc dl ge su va i n k) || (decide (shM pa mk dc dl ge su va i n q = shM pa mk dc dl ge su va i n k) && decide (q < k))))), (3, .int (nI k)), (0, .ref (g 0)), (1, .int (nI i)), (2, .int x)]) hx hb dX4_placed_90 hl (k := 2) rfl (nI_1 _) (by decide) rfl (fun ls hl => ?_)
                    refine lv_goto (tgt := 13) hx hb dX4_placed_93 (by decide) ?_
                    have hl := lv_re (f := fun z9 => [(5, .int (nI (q + 1))), (4, .int z9), (6, .int (bI (decide (shM pa mk dc dl ge su va i n q < shM pa mk dc dl ge su va i n k) || (decide (shM pa mk dc dl ge su va i n q = shM pa mk dc dl ge su va i n k) && decide (q < k))))), (3, .int (nI k)), (0, .ref (g 0)), (1, .int (nI i)), (2, .int x)]) hl (show nI ((fct (bfC (shM pa mk dc dl ge su va i n) (shM pa mk dc dl ge su va i n k) k) q) + 0) = nI (fct (bfC (shM pa mk dc dl ge su va i n) (shM pa mk dc dl ge su va i n k) k) (q + 1)) from congrArg nI (show ((fct (bfC (shM pa mk dc dl ge su va i n) (shM pa mk dc dl ge su va i n k) k) q) + 0) = (fct (bfC (shM pa mk dc dl ge su va i n) (shM pa mk dc dl ge su va i n k) k) (q + 1)) from by simp [fct, bfC, c4, c16, c74, c79]))
                    exact ih13 (q + 1) (by first | assumption | omega) (by omega)  ls  (lv_sub hl [0, 1, 3, 4, 5, 6] rfl)
                  · refine lv_iconst (v := nI 1) hx hb dX4_placed_82 (by decide) ?_
                    refine lv_goto (tgt := 87) hx hb dX4_placed_83 (by decide) ?_
                    refine r_iaddN hx hb dX4_placed_87 ?_
                    refine lv_istore (lv' := [(4, .int (nI ((fct (bfC (shM pa mk dc dl ge su va i n) (shM pa mk dc dl ge su va i n k) k) q) + 1))), (6, .int (bI (decide (shM pa mk dc dl ge su va i n q < shM pa mk dc dl ge su va i n k) || (decide (shM pa mk dc dl ge su va i n q = shM pa mk dc dl ge su va i n k) && decide (q < k))))), (5, .int (nI q)), (3, .int (nI k)), (0, .ref (g 0)), (1, .int (nI i)), (2, .int x)]) hx hb dX4_placed_88 hl (by decide) rfl (fun ls hl => ?_)
                    refine lv_iinc (v := nI (q + 1)) (lv' := [(5, .int (nI (q + 1))), (4, .int (nI ((fct (bfC (shM pa mk dc dl ge su va i n) (shM pa mk dc dl ge su va i n k) k) q) + 1))), (6, .int (bI (decide (shM pa mk dc dl ge su va i n q < shM pa mk dc dl ge su va i n k) || (decide (shM pa mk dc dl ge su va i n q = shM pa mk dc dl ge su va i n k) && decide (q < k))))), (3, .int (nI k)), (0, .ref (g 0)), (1, .int (nI i)), (2, .int x)]) hx hb dX4_placed_90 hl (k := 2) rfl (nI_1 _) (by decide) rfl (fun ls hl => ?_)
                    refine lv_goto (tgt := 13) hx hb dX4_placed_93 (by decide) ?_
                    have hl := lv_re (f := fun z9 => [(5, .int (nI (q + 1))), (4, .int z9), (6, .int (bI (decide (shM pa mk dc dl ge su va i n q < shM pa mk dc dl ge su va i n k) || (decide (shM pa mk dc dl ge su va i n q = shM pa mk dc dl ge su va i n k) && decide (q < k))))), (3, .int (nI k)), (0, .ref (g 0)), (1, .int (nI i)), (2, .int x)]) hl (show nI ((fct (bfC (shM pa mk dc dl ge su va i n) (shM pa mk dc dl ge su va i n k) k) q) + 1) = nI (fct (bfC (shM pa mk dc dl ge su va i n) (shM pa mk dc dl ge su va i n k) k) (q + 1)) from congrArg nI (show ((fct (bfC (shM pa mk dc dl ge su va i n) (shM pa mk dc dl ge su va i n k) k) q) + 1) = (fct (bfC (shM pa mk dc dl ge su va i n) (shM pa mk dc dl ge su va i n k) k) (q + 1)) from by simp [fct, bfC, c4, c16, c74, c79]))
                    exact ih13 (q + 1) (by first | assumption | omega) (by omega)  ls  (lv_sub hl [0, 1, 3, 4, 5, 6] rfl)
              refine lv_aload_n hx hb dX4_placed_19 rfl (lv_at hl 3 rfl) ?_
              refine lv_iload_n hx hb dX4_placed_20 rfl (lv_at hl 4 rfl) ?_
              refine lv_iload hx hb dX4_placed_21 (lv_at hl 0 rfl) ?_
              refine r_cV (As := [.int (nI i), .int (nI q)]) (rest := []) ⟨hx, hb, hml, hown, hts⟩ (cX4_shown_ok l D ct g n dc pa va dl ge su mk dp sq tc kp la i q (by first | assumption | omega) (by first | assumption | omega) (by first | assumption | omega) (by first | assumption | omega) (by first | assumption | omega) (by first | assumption | omega)) (cwV 2 hts gX4_placed_X4_shown rfl rfl rfl (by decide +kernel) ⟨Nat.le_of_ble_eq_true rfl, Nat.le_of_ble_eq_true rfl⟩) hK (hP.sub (ws' := wM ct g n dc pa va dl ge su mk dp sq tc kp la) [0, 1, 2, 3, 4, 5, 6, 7, 8, 9, 10, 11] rfl) 0 4 rfl rfl rfl hl.1 rfl (Nat.le_of_ble_eq_true rfl) dX4_placed_23 ⟨Nat.le_of_ble_eq_true rfl, Nat.le_of_ble_eq_true rfl⟩ ?_
              refine lv_aload_n hx hb dX4_placed_26 rfl (lv_at hl 3 rfl) ?_
              refine lv_iload_n hx hb dX4_placed_27 rfl (lv_at hl 4 rfl) ?_
              refine lv_iload_n hx hb dX4_placed_28 rfl (lv_at hl 2 rfl) ?_
              refine r_cV (As := [.int (nI i), .int (nI k)]) (rest := [.int (shM pa mk dc dl ge su va i n q)]) ⟨hx, hb, hml, hown, hts⟩ (cX4_shown_ok l D ct g n dc pa va dl ge su mk dp sq tc kp la i k (by first | assumption | omega) (by first | assumption | omega) (by first | assumption | omega) (by first | assumption | omega) (by first | assumption | omega) (by first | assumption | omega)) (cwV 2 hts gX4_placed_X4_shown rfl rfl rfl (by decide +kernel) ⟨Nat.le_of_ble_eq_true rfl, Nat.le_of_ble_eq_true rfl⟩) hK (hP.sub (ws' := wM ct g n dc pa va dl ge su mk dp sq tc kp la) [0, 1, 2, 3, 4, 5, 6, 7, 8, 9, 10, 11] rfl) 0 4 rfl rfl rfl hl.1 rfl (Nat.le_of_ble_eq_true rfl) dX4_placed_29 ⟨Nat.le_of_ble_eq_true rfl, Nat.le_of_ble_eq_true rfl⟩ ?_
              refine lv_icmp_lt (x := shM pa mk dc dl ge su va i n q) (y := shM pa mk dc dl ge su va i n k) (tgt := 57) hx hb dX4_placed_32 (by decide) (fun c32 => ?_) (fun c32 => ?_)
              · refine lv_iconst (v := nI 1) hx hb dX4_placed_57 (by decide) ?_
                refine lv_goto (tgt := 62) hx hb dX4_placed_58 (by decide) ?_
                refine r_top (y := bI (decide (shM pa mk dc dl ge su va i n q < shM pa mk dc dl ge su va i n k) || (decide (shM pa mk dc dl ge su va i n q = shM pa mk dc dl ge su va i n k) && decide (q < k)))) (congrArg bI (show true = (decide (shM pa mk dc dl ge su va i n q < shM pa mk dc dl ge su va i n k) || (decide (shM pa mk dc dl ge su va i n q = shM pa mk dc dl ge su va i n k) && decide (q < k))) from by simp [c4, c16, c32])) ?_
                exact jn62  ls  (lv_sub hl [0, 1, 2, 3, 4, 5] rfl)
              · refine lv_aload_n hx hb dX4_placed_35 rfl (lv_at hl 3 rfl) ?_
                refine lv_iload_n hx hb dX4_placed_36 rfl (lv_at hl 4 rfl) ?_
                refine lv_iload hx hb dX4_placed_37 (lv_at hl 0 rfl) ?_
                refine r_cV (As := [.int (nI i), .int (nI q)]) (rest := []) ⟨hx, hb, hml, hown, hts⟩ (cX4_shown_ok l D ct g n dc pa va dl ge su mk dp sq tc kp la i q (by first | assumption | omega) (by first | assumption | omega) (by first | assumption | omega) (by first | assumption | omega) (by first | assumption | omega) (by first | assumption | omega)) (cwV 2 hts gX4_placed_X4_shown rfl rfl rfl (by decide +kernel) ⟨Nat.le_of_ble_eq_true rfl, Nat.le_of_ble_eq_true rfl⟩) hK (hP.sub (ws' := wM ct g n dc pa va dl ge su mk dp sq tc kp la) [0, 1, 2, 3, 4, 5, 6, 7, 8, 9, 10, 11] rfl) 0 4 rfl rfl rfl hl.1 rfl (Nat.le_of_ble_eq_true rfl) dX4_placed_39 ⟨Nat.le_of_ble_eq_true rfl, Nat.le_of_ble_eq_true rfl⟩ ?_
                refine lv_aload_n hx hb dX4_placed_42 rfl (lv_at hl 3 rfl) ?_
                refine lv_iload_n hx hb dX4_placed_43 rfl (lv_at hl 4 rfl) ?_
                refine lv_iload_n hx hb dX4_placed_44 rfl (lv_at hl 2 rfl) ?_
                refine r_cV (As := [.int (nI i), .int (nI k)]) (rest := [.int (shM pa mk dc dl ge su va i n q)]) ⟨hx, hb, hml, hown, hts⟩ (cX4_shown_ok l D ct g n dc pa va dl ge su mk dp sq tc kp la i k (by first | assumption | omega) (by first | assumption | omega) (by first | assumption | omega) (by first | assumption | omega) (by first | assumption | omega) (by first | assumption | omega)) (cwV 2 hts gX4_placed_X4_shown rfl rfl rfl (by decide +kernel) ⟨Nat.le_of_ble_eq_true rfl, Nat.le_of_ble_eq_true rfl⟩) hK (hP.sub (ws' := wM ct g n dc pa va dl ge su mk dp sq tc kp la) [0, 1, 2, 3, 4, 5, 6, 7, 8, 9, 10, 11] rfl) 0 4 rfl rfl rfl hl.1 rfl (Nat.le_of_ble_eq_true rfl) dX4_placed_45 ⟨Nat.le_of_ble_eq_true rfl, Nat.le_of_ble_eq_true rfl⟩ ?_
                refine lv_icmp_ne (x := shM pa mk dc dl ge su va i n q) (y := shM pa mk dc dl ge su va i n k) (tgt := 61) hx hb dX4_placed_48 (by decide) (fun c48 => ?_) (fun c48 => ?_)
                · refine lv_iconst (v := nI 0) hx hb dX4_placed_61 (by decide) ?_
                  refine r_top (y := bI (decide (shM pa mk dc dl ge su va i n q < shM pa mk dc dl ge su va i n k) || (decide (shM pa mk dc dl ge su va i n q = shM pa mk dc dl ge su va i n k) && decide (q < k)))) (congrArg bI (show false = (decide (shM pa mk dc dl ge su va i n q < shM pa mk dc dl ge su va i n k) || (decide (shM pa mk dc dl ge su va i n q = shM pa mk dc dl ge su va i n k) && decide (q < k))) from by simp [c4, c16, c32, c48])) ?_
                  exact jn62  ls  (lv_sub hl [0, 1, 2, 3, 4, 5] rfl)
                · refine lv_iload hx hb dX4_placed_51 (lv_at hl 0 rfl) ?_
                  refine lv_iload_n hx hb dX4_placed_53 rfl (lv_at hl 2 rfl) ?_
                  refine r_icmp_geN hx hb (x := q) (y := k) (by first | omega | decide) (by first | omega | decide) (tgt := 61) dX4_placed_54 (by decide) (fun c54 => ?_) (fun c54 => ?_)
                  · refine lv_iconst (v := nI 0) hx hb dX4_placed_61 (by decide) ?_
                    refine r_top (y := bI (decide (shM pa mk dc dl ge su va i n q < shM pa mk dc dl ge su va i n k) || (decide (shM pa mk dc dl ge su va i n q = shM pa mk dc dl ge su va i n k) && decide (q < k)))) (congrArg bI (show false = (decide (shM pa mk dc dl ge su va i n q < shM pa mk dc dl ge su va i n k) || (decide (shM pa mk dc dl ge su va i n q = shM pa mk dc dl ge su va i n k) && decide (q < k))) from by simp [c4, c16, c32, c48, c54])) ?_
                    exact jn62  ls  (lv_sub hl [0, 1, 2, 3, 4, 5] rfl)
                  · refine lv_iconst (v := nI 1) hx hb dX4_placed_57 (by decide) ?_
                    refine lv_goto (tgt := 62) hx hb dX4_placed_58 (by decide) ?_
                    refine r_top (y := bI (decide (shM pa mk dc dl ge su va i n q < shM pa mk dc dl ge su va i n k) || (decide (shM pa mk dc dl ge su va i n q = shM pa mk dc dl ge su va i n k) && decide (q < k)))) (congrArg bI (show true = (decide (shM pa mk dc dl ge su va i n q < shM pa mk dc dl ge su va i n k) || (decide (shM pa mk dc dl ge su va i n q = shM pa mk dc dl ge su va i n k) && decide (q < k))) from by simp [c4, c16, c32, c48, c54])) ?_
                    exact jn62  ls  (lv_sub hl [0, 1, 2, 3, 4, 5] rfl)
        have hl := lv_re (f := fun z9 => [(5, .int (nI 0)), (4, .int z9), (3, .int (nI k)), (0, .ref (g 0)), (1, .int (nI i)), (2, .int x)]) hl (show nI 0 = nI (fct (bfC (shM pa mk dc dl ge su va i n) (shM pa mk dc dl ge su va i n k) k) 0) from congrArg nI (show 0 = (fct (bfC (shM pa mk dc dl ge su va i n) (shM pa mk dc dl ge su va i n k) k) 0) from rfl))
        exact key13 ((4 - 0) + 1) 0 (by first | assumption | omega) (Nat.lt_succ_self _)  ls  (lv_sub hl [0, 1, 2, 3, 4, 5] rfl)
  exact key2 ((4 - 0) + 1) 0 (by first | assumption | omega) (rfl) (Nat.lt_succ_self _)  ls  (lv_sub hl [0, 1, 2, 3] rfl)
set_option maxHeartbeats 8000000 in
set_option maxRecDepth 100000 in
theorem cX4_viewAt_ok (l : Launch) (D : va_G) (ct : Nat → ClassId) (g : Nat → Nat) (n : Nat) (dc : Nat → Nat) (pa : Nat → Option Nat) (va : Nat → Int32) (dl : Nat → Bool) (ge : Nat → Nat) (su : Nat → Int32) (mk : Nat → Bool) (dp : Nat → Int32) (sq : Nat → Int32) (tc : Nat → Int32) (kp : Nat → Int32) (la : Int32) (i : Nat) (x : Int32) (q : Nat) (hn : n ≤ 150) (hTd : ∀ k, dc k < 4) (hTg : ∀ k, ge k ≤ 150) (hTp : ∀ k j, k < n → pa k = some j → j < k) (hi : i < 3) (hpl : ffd (plC (shM pa mk dc dl ge su va i n) x) 4 = some q) (sz : Nat) : Met l yX4_viewAt wsX4_viewAt ({ frames := 6, cells := 0, slots := 0, locals := 143 } : Room) (wrPc D ct [.ref (g 0), .int (nI i), .int x] (wM ct g n dc pa va dl ge su mk dp sq tc kp la) sz) (wqI D (nI q) (wM ct g n dc pa va dl ge su mk dp sq tc kp (nI 0)) (va_A (wM ct g n dc pa va dl ge su mk dp sq tc kp la) sz)) 0 0 (va_A (wM ct g n dc pa va dl ge su mk dp sq tc kp la) sz) := by
  refine Met.ofW (cc := cX4_viewAt) (maxL := 4) (ret := (some .int)) (by decide) rfl ?_
  intro p e s m args below meth c s₁ B hml hv
  obtain ⟨rfl, hsz, hP, hK, hD0⟩ := hv
  have hx := B.exec
  have hb := B.bytes
  have hr := B.returns
  have hts := atoms_spec (ws := wsX4_viewAt) B.pre
  have hown : s.vm.findClass RX4 = some m.cls := findClass_of_methodNamed B.named
  have hlocks := B.notSynchronized
  subst hsz
  have hD := hD0.self (sz := s.heap.size)
  generalize hAe : va_A (wM ct g n dc pa va dl ge su mk dp sq tc kp la) s.heap.size = A at hD ⊢
  have hA : ∀ q : Nat, s.heap.size ≤ q → A q := fun q h => by rw [← hAe]; exact Or.inr h
  have hS : va_S A s.heap s.heap [] := va_S.rf
  have hP : va_P D vwCl (wM ct g n dc pa va dl ge su mk dp sq tc kp la) s.heap := hP
  clear hAe hD0
  have hl := lv_entry ([.ref (g 0), .int (nI i), .int x]) (n := 4) (Nat.le_of_ble_eq_true rfl)
  rw [lg_entry_eq]
  generalize (lg_sl ([.ref (g 0), .int (nI i), .int x]) ++ List.replicate (4 - (lg_sl ([.ref (g 0), .int (nI i), .int x])).length) Slot.unset).toArray = ls at hl ⊢
  have hl : lv_has ls 4 [(0, .ref (g 0)), (1, .int (nI i)), (2, .int x)] := hl
  have hH0 : s.heap.size ≤ s.heap.size := Nat.le_refl _
  refine lv_iload_n hx hb dX4_viewAt_0 rfl (lv_at hl 1 rfl) ?_
  refine r_cS (As := [.int (nI i)]) (rest := []) ⟨hx, hb, hml, hown, hts⟩ (cX4_isStore_ok l D ct (nI i) ) (va_cwS 1 hts gX4_viewAt_X4_isStore rfl rfl rfl (by decide +kernel) ⟨Nat.le_of_ble_eq_true rfl, Nat.le_of_ble_eq_true rfl⟩) hK va_Pnil rfl hl.1 rfl (Nat.le_of_ble_eq_true rfl) dX4_viewAt_1 ⟨Nat.le_of_ble_eq_true rfl, Nat.le_of_ble_eq_true rfl⟩ ?_
  refine r_top (y := bI true) (congrArg bI (show (inn (nI i) (nI 0) (nI 2)) = true from inn_t (by omega) (by decide))) ?_
  refine r_if_eqB (x := true) (tgt := 21) hx hb dX4_viewAt_4 (by decide) (fun c4 => by cases c4) (fun c4 => ?_)
  refine lv_aload_n hx hb dX4_viewAt_7 rfl (lv_at hl 0 rfl) ?_
  refine lv_iload_n hx hb dX4_viewAt_8 rfl (lv_at hl 1 rfl) ?_
  refine lv_iload_n hx hb dX4_viewAt_9 rfl (lv_at hl 2 rfl) ?_
  refine r_cV (As := [.int (nI i), .int x]) (rest := []) ⟨hx, hb, hml, hown, hts⟩ (cX4_placed_ok l D ct g n dc pa va dl ge su mk dp sq tc kp la i x (by first | assumption | omega) (by first | assumption | omega) (by first | assumption | omega) (by first | assumption | omega) (by first | assumption | omega)) (cwV 2 hts gX4_viewAt_X4_placed rfl rfl rfl (by decide +kernel) ⟨Nat.le_of_ble_eq_true rfl, Nat.le_of_ble_eq_true rfl⟩) hK (hP.sub (ws' := wM ct g n dc pa va dl ge su mk dp sq tc kp la) [0, 1, 2, 3, 4, 5, 6, 7, 8, 9, 10, 11] rfl) 0 4 rfl rfl rfl hl.1 rfl (Nat.le_of_ble_eq_true rfl) dX4_viewAt_10 ⟨Nat.le_of_ble_eq_true rfl, Nat.le_of_ble_eq_true rfl⟩ ?_
  refine lv_iconst (v := -1) hx hb dX4_viewAt_13 (by decide) ?_
  refine r_icmp_eqP hx hb (x := ffd (plC (shM pa mk dc dl ge su va i n) x) 4) (by intro j9 h9; rw [hpl] at h9; cases h9; exact ffd_b hpl (by decide)) (tgt := 21) dX4_viewAt_14 (by decide) (fun c14 => ?_) (fun j14 c14 => ?_)
  · exact absurd c14 (by rw [hpl]; exact fun h => by cases h)
  · refine lv_iconst (v := nI 1) hx hb dX4_viewAt_17 (by decide) ?_
    refine lv_goto (tgt := 22) hx hb dX4_viewAt_18 (by decide) ?_
    refine lv_istore_n (lv' := [(3, .int (nI 1)), (0, .ref (g 0)), (1, .int (nI i)), (2, .int x)]) hx hb dX4_viewAt_22 rfl hl (by decide) rfl (fun ls hl => ?_)
    refine lv_aload_n hx hb dX4_viewAt_23 rfl (lv_at hl 1 rfl) ?_
    refine lv_iload_n hx hb dX4_viewAt_24 rfl (lv_at hl 0 rfl) ?_
    refine lv_iconst (v := nI 1) hx hb dX4_viewAt_25 (by decide) ?_
    refine lv_iconst (v := nI 1) hx hb dX4_viewAt_26 (by decide) ?_
    refine r_wVi (As := [.int (bI true), .int (bI true), .int (bI true)]) (rest := []) ⟨hx, hb, hml, hown, hts⟩ (cX4_goes_ok l D ct g n dc pa va dl ge su mk dp sq tc kp la true true true  s.heap.size) (cwV 3 hts gX4_viewAt_X4_goes rfl rfl rfl (by decide +kernel) ⟨Nat.le_of_ble_eq_true rfl, Nat.le_of_ble_eq_true rfl⟩) hK hP hD hS hA [0, 1, 2, 3, 4, 5, 6, 7, 8, 9, 10, 11] rfl rfl rfl 0 4 rfl rfl rfl hl.1 rfl (Nat.le_of_ble_eq_true rfl) dX4_viewAt_27 ⟨Nat.le_of_ble_eq_true rfl, Nat.le_of_ble_eq_true rfl⟩ (fun H locs hP hD hS => ?_)
    have hP : va_P D vwCl (wM ct g n dc pa va dl ge su mk dp sq tc kp (gof true true true)) H := hP
    have hD : va_D A (wM ct g n dc pa va dl ge su mk dp sq tc kp (gof true true true)) := hD
    refine r_top (y := bI true) (congrArg bI (show (true && (true && true)) = true from rfl)) ?_
    refine r_if_eqB (x := true) (tgt := 42) hx hb dX4_viewAt_30 (by decide) (fun c30 => by cases c30) (fun c30 => ?_)
    refine lv_aload_n hx hb dX4_viewAt_33 rfl (lv_at hl 1 rfl) ?_
    refine lv_iload_n hx hb dX4_viewAt_34 rfl (lv_at hl 2 rfl) ?_
    refine lv_iload_n hx hb dX4_viewAt_35 rfl (lv_at hl 3 rfl) ?_
    refine r_cV (As := [.int (nI i), .int x]) (rest := []) ⟨hx, hb, hml, hown, hts⟩ (cX4_placed_ok l D ct g n dc pa va dl ge su mk dp sq tc kp (gof true true true) i x (by first | assumption | omega) (by first | assumption | omega) (by first | assumption | omega) (by first | assumption | omega) (by first | assumption | omega)) (cwV 2 hts gX4_viewAt_X4_placed rfl rfl rfl (by decide +kernel) ⟨Nat.le_of_ble_eq_true rfl, Nat.le_of_ble_eq_true rfl⟩) hK (hP.sub (ws' := wM ct g n dc pa va dl ge su mk dp sq tc kp (gof true true true)) [0, 1, 2, 3, 4, 5, 6, 7, 8, 9, 10, 11] rfl) 0 4 rfl rfl rfl hl.1 rfl (Nat.le_of_ble_eq_true rfl) dX4_viewAt_36 ⟨Nat.le_of_ble_eq_true rfl, Nat.le_of_ble_eq_true rfl⟩ ?_
    refine lv_goto (tgt := 43) hx hb dX4_viewAt_39 (by decide) ?_
    refine r_top (y := nI q) (by rw [hpl]; rfl) ?_
    have e9 : (gof true true true) = (nI 0) := rfl
    have hP := (congrArg (fun z9 => va_P D vwCl (wM ct g n dc pa va dl ge su mk dp sq tc kp z9) H) e9).mp hP
    have hP : va_P D vwCl (wM ct g n dc pa va dl ge su mk dp sq tc kp (nI 0)) H := hP
    exact W.iret hx hb hr (fun t ht hW => ⟨⟨_, (), rfl, rfl, by show va_P D vwCl _ t.heap; rw [ht]; exact hP⟩, hS.F ht⟩) hS.2.2 dX4_viewAt_43
set_option maxHeartbeats 8000000 in
set_option maxRecDepth 100000 in
theorem cX4_viewAt_bad1 (l : Launch) (D : va_G) (ct : Nat → ClassId) (g : Nat → Nat) (n : Nat) (dc : Nat → Nat) (pa : Nat → Option Nat) (va : Nat → Int32) (dl : Nat → Bool) (ge : Nat → Nat) (su : Nat → Int32) (mk : Nat → Bool) (dp : Nat → Int32) (sq : Nat → Int32) (tc : Nat → Int32) (kp : Nat → Int32) (la : Int32) (p0 : Int32) (p1 : Int32) (hbad : inn p0 (nI 0) (nI 2) = false) (sz : Nat) : Met l yX4_viewAt wsX4_viewAt ({ frames := 6, cells := 0, slots := 0, locals := 143 } : Room) (wrPc D ct [.ref (g 0), .int p0, .int p1] (wM ct g n dc pa va dl ge su mk dp sq tc kp la) sz) (wqI D (nI 0) (wM ct g n dc pa va dl ge su mk dp sq tc kp (nI 1)) (va_A (wM ct g n dc pa va dl ge su mk dp sq tc kp la) sz)) 0 0 (va_A (wM ct g n dc pa va dl ge su mk dp sq tc kp la) sz) := by
  refine Met.ofW (cc := cX4_viewAt) (maxL := 4) (ret := (some .int)) (by decide) rfl ?_
  intro p e s m args below meth c s₁ B hml hv
  obtain ⟨rfl, hsz, hP, hK, hD0⟩ := hv
  have hx := B.exec
  have hb := B.bytes
  have hr := B.returns
  have hts := atoms_spec (ws := wsX4_viewAt) B.pre
  have hown : s.vm.findClass RX4 = some m.cls := findClass_of_methodNamed B.named
  have hlocks := B.notSynchronized
  subst hsz
  have hD := hD0.self (sz := s.heap.size)
  generalize hAe : va_A (wM ct g n dc pa va dl ge su mk dp sq tc kp la) s.heap.size = A at hD ⊢
  have hA : ∀ q : Nat, s.heap.size ≤ q → A q := fun q h => by rw [← hAe]; exact Or.inr h
  have hS : va_S A s.heap s.heap [] := va_S.rf
  have hP : va_P D vwCl (wM ct g n dc pa va dl ge su mk dp sq tc kp la) s.heap := hP
  clear hAe hD0
  have hl := lv_entry ([.ref (g 0), .int p0, .int p1]) (n := 4) (Nat.le_of_ble_eq_true rfl)
  rw [lg_entry_eq]
  generalize (lg_sl ([.ref (g 0), .int p0, .int p1]) ++ List.replicate (4 - (lg_sl ([.ref (g 0), .int p0, .int p1])).length) Slot.unset).toArray = ls at hl ⊢
  have hl : lv_has ls 4 [(0, .ref (g 0)), (1, .int p0), (2, .int p1)] := hl
  have hH0 : s.heap.size ≤ s.heap.size := Nat.le_refl _
  refine lv_iload_n hx hb dX4_viewAt_0 rfl (lv_at hl 1 rfl) ?_
  refine r_cS (As := [.int p0]) (rest := []) ⟨hx, hb, hml, hown, hts⟩ (cX4_isStore_ok l D ct p0 ) (va_cwS 1 hts gX4_viewAt_X4_isStore rfl rfl rfl (by decide +kernel) ⟨Nat.le_of_ble_eq_true rfl, Nat.le_of_ble_eq_true rfl⟩) hK va_Pnil rfl hl.1 rfl (Nat.le_of_ble_eq_true rfl) dX4_viewAt_1 ⟨Nat.le_of_ble_eq_true rfl, Nat.le_of_ble_eq_true rfl⟩ ?_
  refine r_top (y := bI false) (congrArg bI (show (inn p0 (nI 0) (nI 2)) = false from hbad)) ?_
  refine r_if_eqB (x := false) (tgt := 21) hx hb dX4_viewAt_4 (by decide) (fun c4 => ?_) (fun c4 => by cases c4)
  refine lv_iconst (v := nI 0) hx hb dX4_viewAt_21 (by decide) ?_
  refine lv_istore_n (lv' := [(3, .int (nI 0)), (0, .ref (g 0)), (1, .int p0), (2, .int p1)]) hx hb dX4_viewAt_22 rfl hl (by decide) rfl (fun ls hl => ?_)
  refine lv_aload_n hx hb dX4_viewAt_23 rfl (lv_at hl 1 rfl) ?_
  refine lv_iload_n hx hb dX4_viewAt_24 rfl (lv_at hl 0 rfl) ?_
  refine lv_iconst (v := nI 1) hx hb dX4_viewAt_25 (by decide) ?_
  refine lv_iconst (v := nI 1) hx hb dX4_viewAt_26 (by decide) ?_
  refine r_wVi (As := [.int (bI false), .int (bI true), .int (bI true)]) (rest := []) ⟨hx, hb, hml, hown, hts⟩ (cX4_goes_ok l D ct g n dc pa va dl ge su mk dp sq tc kp la false true true  s.heap.size) (cwV 3 hts gX4_viewAt_X4_goes rfl rfl rfl (by decide +kernel) ⟨Nat.le_of_ble_eq_true rfl, Nat.le_of_ble_eq_true rfl⟩) hK hP hD hS hA [0, 1, 2, 3, 4, 5, 6, 7, 8, 9, 10, 11] rfl rfl rfl 0 4 rfl rfl rfl hl.1 rfl (Nat.le_of_ble_eq_true rfl) dX4_viewAt_27 ⟨Nat.le_of_ble_eq_true rfl, Nat.le_of_ble_eq_true rfl⟩ (fun H locs hP hD hS => ?_)
  have hP : va_P D vwCl (wM ct g n dc pa va dl ge su mk dp sq tc kp (gof false true true)) H := hP
  have hD : va_D A (wM ct g n dc pa va dl ge su mk dp sq tc kp (gof false true true)) := hD
  refine r_top (y := bI false) (congrArg bI (show (false && (true && true)) = false from rfl)) ?_
  refine r_if_eqB (x := false) (tgt := 42) hx hb dX4_viewAt_30 (by decide) (fun c30 => ?_) (fun c30 => by cases c30)
  refine lv_iconst (v := nI 0) hx hb dX4_viewAt_42 (by decide) ?_
  have e9 : (gof false true true) = (nI 1) := rfl
  have hP := (congrArg (fun z9 => va_P D vwCl (wM ct g n dc pa va dl ge su mk dp sq tc kp z9) H) e9).mp hP
  have hP : va_P D vwCl (wM ct g n dc pa va dl ge su mk dp sq tc kp (nI 1)) H := hP
  exact W.iret hx hb hr (fun t ht hW => ⟨⟨_, (), rfl, rfl, by show va_P D vwCl _ t.heap; rw [ht]; exact hP⟩, hS.F ht⟩) hS.2.2 dX4_viewAt_43
set_option maxHeartbeats 8000000 in
set_option maxRecDepth 100000 in
theorem cX4_viewAt_bad2 (l : Launch) (D : va_G) (ct : Nat → ClassId) (g : Nat → Nat) (n : Nat) (dc : Nat → Nat) (pa : Nat → Option Nat) (va : Nat → Int32) (dl : Nat → Bool) (ge : Nat → Nat) (su : Nat → Int32) (mk : Nat → Bool) (dp : Nat → Int32) (sq : Nat → Int32) (tc : Nat → Int32) (kp : Nat → Int32) (la : Int32) (i : Nat) (x : Int32) (hn : n ≤ 150) (hTd : ∀ k, dc k < 4) (hTg : ∀ k, ge k ≤ 150) (hTp : ∀ k j, k < n → pa k = some j → j < k) (hi : i < 3) (hpl : ffd (plC (shM pa mk dc dl ge su va i n) x) 4 = none) (sz : Nat) : Met l yX4_viewAt wsX4_viewAt ({ frames := 6, cells := 0, slots := 0, locals := 143 } : Room) (wrPc D ct [.ref (g 0), .int (nI i), .int x] (wM ct g n dc pa va dl ge su mk dp sq tc kp la) sz) (wqI D (nI 0) (wM ct g n dc pa va dl ge su mk dp sq tc kp (nI 1)) (va_A (wM ct g n dc pa va dl ge su mk dp sq tc kp la) sz)) 0 0 (va_A (wM ct g n dc pa va dl ge su mk dp sq tc kp la) sz) := by
  refine Met.ofW (cc := cX4_viewAt) (maxL := 4) (ret := (some .int)) (by decide) rfl ?_
  intro p e s m args below meth c s₁ B hml hv
  obtain ⟨rfl, hsz, hP, hK, hD0⟩ := hv
  have hx := B.exec
  have hb := B.bytes
  have hr := B.returns
  have hts := atoms_spec (ws := wsX4_viewAt) B.pre
  have hown : s.vm.findClass RX4 = some m.cls := findClass_of_methodNamed B.named
  have hlocks := B.notSynchronized
  subst hsz
  have hD := hD0.self (sz := s.heap.size)
  generalize hAe : va_A (wM ct g n dc pa va dl ge su mk dp sq tc kp la) s.heap.size = A at hD ⊢
  have hA : ∀ q : Nat, s.heap.size ≤ q → A q := fun q h => by rw [← hAe]; exact Or.inr h
  have hS : va_S A s.heap s.heap [] := va_S.rf
  have hP : va_P D vwCl (wM ct g n dc pa va dl ge su mk dp sq tc kp la) s.heap := hP
  clear hAe hD0
  have hl := lv_entry ([.ref (g 0), .int (nI i), .int x]) (n := 4) (Nat.le_of_ble_eq_true rfl)
  rw [lg_entry_eq]
  generalize (lg_sl ([.ref (g 0), .int (nI i), .int x]) ++ List.replicate (4 - (lg_sl ([.ref (g 0), .int (nI i), .int x])).length) Slot.unset).toArray = ls at hl ⊢
  have hl : lv_has ls 4 [(0, .ref (g 0)), (1, .int (nI i)), (2, .int x)] := hl
  have hH0 : s.heap.size ≤ s.heap.size := Nat.le_refl _
  refine lv_iload_n hx hb dX4_viewAt_0 rfl (lv_at hl 1 rfl) ?_
  refine r_cS (As := [.int (nI i)]) (rest := []) ⟨hx, hb, hml, hown, hts⟩ (cX4_isStore_ok l D ct (nI i) ) (va_cwS 1 hts gX4_viewAt_X4_isStore rfl rfl rfl (by decide +kernel) ⟨Nat.le_of_ble_eq_true rfl, Nat.le_of_ble_eq_true rfl⟩) hK va_Pnil rfl hl.1 rfl (Nat.le_of_ble_eq_true rfl) dX4_viewAt_1 ⟨Nat.le_of_ble_eq_true rfl, Nat.le_of_ble_eq_true rfl⟩ ?_
  refine r_top (y := bI true) (congrArg bI (show (inn (nI i) (nI 0) (nI 2)) = true from inn_t (by omega) (by decide))) ?_
  refine r_if_eqB (x := true) (tgt := 21) hx hb dX4_viewAt_4 (by decide) (fun c4 => by cases c4) (fun c4 => ?_)
  refine lv_aload_n hx hb dX4_viewAt_7 rfl (lv_at hl 0 rfl) ?_
  refine lv_iload_n hx hb dX4_viewAt_8 rfl (lv_at hl 1 rfl) ?_
  refine lv_iload_n hx hb dX4_viewAt_9 rfl (lv_at hl 2 rfl) ?_
  refine r_cV (As := [.int (nI i), .int x]) (rest := []) ⟨hx, hb, hml, hown, hts⟩ (cX4_placed_ok l D ct g n dc pa va dl ge su mk dp sq tc kp la i x (by first | assumption | omega) (by first | assumption | omega) (by first | assumption | omega) (by first | assumption | omega) (by first | assumption | omega)) (cwV 2 hts gX4_viewAt_X4_placed rfl rfl rfl (by decide +kernel) ⟨Nat.le_of_ble_eq_true rfl, Nat.le_of_ble_eq_true rfl⟩) hK (hP.sub (ws' := wM ct g n dc pa va dl ge su mk dp sq tc kp la) [0, 1, 2, 3, 4, 5, 6, 7, 8, 9, 10, 11] rfl) 0 4 rfl rfl rfl hl.1 rfl (Nat.le_of_ble_eq_true rfl) dX4_viewAt_10 ⟨Nat.le_of_ble_eq_true rfl, Nat.le_of_ble_eq_true rfl⟩ ?_
  refine lv_iconst (v := -1) hx hb dX4_viewAt_13 (by decide) ?_
  refine r_icmp_eqP hx hb (x := ffd (plC (shM pa mk dc dl ge su va i n) x) 4) (by intro j9 h9; rw [hpl] at h9; cases h9) (tgt := 21) dX4_viewAt_14 (by decide) (fun c14 => ?_) (fun j14 c14 => ?_)
  · refine lv_iconst (v := nI 0) hx hb dX4_viewAt_21 (by decide) ?_
    refine lv_istore_n (lv' := [(3, .int (nI 0)), (0, .ref (g 0)), (1, .int (nI i)), (2, .int x)]) hx hb dX4_viewAt_22 rfl hl (by decide) rfl (fun ls hl => ?_)
    refine lv_aload_n hx hb dX4_viewAt_23 rfl (lv_at hl 1 rfl) ?_
    refine lv_iload_n hx hb dX4_viewAt_24 rfl (lv_at hl 0 rfl) ?_
    refine lv_iconst (v := nI 1) hx hb dX4_viewAt_25 (by decide) ?_
    refine lv_iconst (v := nI 1) hx hb dX4_viewAt_26 (by decide) ?_
    refine r_wVi (As := [.int (bI false), .int (bI true), .int (bI true)]) (rest := []) ⟨hx, hb, hml, hown, hts⟩ (cX4_goes_ok l D ct g n dc pa va dl ge su mk dp sq tc kp la false true true  s.heap.size) (cwV 3 hts gX4_viewAt_X4_goes rfl rfl rfl (by decide +kernel) ⟨Nat.le_of_ble_eq_true rfl, Nat.le_of_ble_eq_true rfl⟩) hK hP hD hS hA [0, 1, 2, 3, 4, 5, 6, 7, 8, 9, 10, 11] rfl rfl rfl 0 4 rfl rfl rfl hl.1 rfl (Nat.le_of_ble_eq_true rfl) dX4_viewAt_27 ⟨Nat.le_of_ble_eq_true rfl, Nat.le_of_ble_eq_true rfl⟩ (fun H locs hP hD hS => ?_)
    have hP : va_P D vwCl (wM ct g n dc pa va dl ge su mk dp sq tc kp (gof false true true)) H := hP
    have hD : va_D A (wM ct g n dc pa va dl ge su mk dp sq tc kp (gof false true true)) := hD
    refine r_top (y := bI false) (congrArg bI (show (false && (true && true)) = false from rfl)) ?_
    refine r_if_eqB (x := false) (tgt := 42) hx hb dX4_viewAt_30 (by decide) (fun c30 => ?_) (fun c30 => by cases c30)
    refine lv_iconst (v := nI 0) hx hb dX4_viewAt_42 (by decide) ?_
    have e9 : (gof false true true) = (nI 1) := rfl
    have hP := (congrArg (fun z9 => va_P D vwCl (wM ct g n dc pa va dl ge su mk dp sq tc kp z9) H) e9).mp hP
    have hP : va_P D vwCl (wM ct g n dc pa va dl ge su mk dp sq tc kp (nI 1)) H := hP
    exact W.iret hx hb hr (fun t ht hW => ⟨⟨_, (), rfl, rfl, by show va_P D vwCl _ t.heap; rw [ht]; exact hP⟩, hS.F ht⟩) hS.2.2 dX4_viewAt_43
  · exact absurd c14 (by rw [hpl]; exact fun h => by cases h)
