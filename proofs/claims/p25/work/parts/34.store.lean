set_option maxHeartbeats 8000000 in
set_option maxRecDepth 100000 in
theorem cX1_nextChanged_ok (l : Launch) (D : va_G) (ct : Nat → ClassId) (z : Nat → Nat) (dp : Int32) (lt : Int32) (ch : Nat → Int32) (ck : Nat → Int32) (h : Nat → Nat) (x : Int32)  : Met l yX1_nextChanged wsX1_nextChanged ({ frames := 0, cells := 0, slots := 0, locals := 0 } : Room) (roPc D ct [.ref (z 0), .int x] (wS ct z h dp lt ch ck)) (rqI (eP (nxS ch x 4))) 0 0 (fun _ => False) := by
  refine Met.ofW (cc := cX1_nextChanged) (maxL := 4) (ret := (some .int)) (by decide) rfl ?_
  intro p e s m args below meth c s₁ B hml hv
  obtain ⟨rfl, hP, hK⟩ := hv
  have hx := B.exec
  have hb := B.bytes
  have hr := B.returns
  have hts := atoms_spec (ws := wsX1_nextChanged) B.pre
  have hown : s.vm.findClass RX1 = some m.cls := findClass_of_methodNamed B.named
  have hlocks := B.notSynchronized
  have hl := lv_entry ([.ref (z 0), .int x]) (n := 4) (Nat.le_of_ble_eq_true rfl)
  rw [lg_entry_eq]
  generalize (lg_sl ([.ref (z 0), .int x]) ++ List.replicate (4 - (lg_sl ([.ref (z 0), .int x])).length) Slot.unset).toArray = ls at hl ⊢
  have hl : lv_has ls 4 [(0, .ref (z 0)), (1, .int x)] := hl
  refine lv_iconst (v := -1) hx hb dX1_nextChanged_0 (by decide) ?_
  refine lv_istore_n (lv' := [(2, .int (eP none)), (0, .ref (z 0)), (1, .int x)]) hx hb dX1_nextChanged_1 rfl hl (by decide) rfl (fun ls hl => ?_)
  refine lv_iconst (v := nI 0) hx hb dX1_nextChanged_2 (by decide) ?_
  refine lv_istore_n (lv' := [(3, .int (nI 0)), (2, .int (eP none)), (0, .ref (z 0)), (1, .int x)]) hx hb dX1_nextChanged_3 rfl hl (by decide) rfl (fun ls hl => ?_)
  have key4 : ∀ (d4 : Nat) (k : Nat) (hk : k ≤ 4), 4 - k < d4 → ∀  (ls : Array Slot), lv_has ls 4 [(3, .int (nI k)), (2, .int (eP (nxS ch x k))), (0, .ref (z 0)), (1, .int x)] → W p l e ({ frames := 0, cells := 0, slots := 0, locals := 0 } : Room) s m ([.ref (z 0), .int x] : List Value).toArray below meth c s.heap [] 0 0 (MQ below (rqI (eP (nxS ch x 4))) ([.ref (z 0), .int x] : List Value).toArray s 0 0 (fun _ => False)) (F0 m 4 ls []) := by
    intro d4
    induction d4 with
    | zero => intro k hk h9; exact absurd h9 (Nat.not_lt_zero _)
    | succ d4 ih4 =>
      intro k hk hm4  ls  hl
      refine lv_iload_n hx hb dX1_nextChanged_4 rfl (lv_at hl 0 rfl) ?_
      refine lv_iconst (v := nI 4) hx hb dX1_nextChanged_5 (by decide) ?_
      refine r_icmp_geN hx hb (x := k) (y := 4) (by first | omega | decide) (by first | omega | decide) (tgt := 47) dX1_nextChanged_6 (by decide) (fun c6 => ?_) (fun c6 => ?_)
      · refine lv_iload_n hx hb dX1_nextChanged_47 rfl (lv_at hl 1 rfl) ?_
        refine r_top (y := eP (nxS ch x 4)) (congrArg eP (show (nxS ch x k) = (nxS ch x 4) from by rw [show k = 4 by omega])) ?_
        exact W.iret hx hb hr (fun t ht hW => ⟨_, rfl, rfl, ht⟩) (fun _ h => by cases h) dX1_nextChanged_48
      · refine lv_aload_n hx hb dX1_nextChanged_9 rfl (lv_at hl 2 rfl) ?_
        refine va_get (D := D) (ci := 1) (v := .ref (z 1)) (C := RX1) (T := TX1) (N := 5) hx hb hts (fun _ h => List.mem_cons_of_mem _ (List.mem_append_right _ h)) hown hK.1 hP 0 rfl rfl 3 (by decide) (hts (.fieldLink RX1 25 "RevisionStores$Store" "changes" "[I") (List.mem_of_getElem? (i := 1) rfl)) (fun _ h9 => h9) rfl dX1_nextChanged_10 ?_
        refine lv_iload_n hx hb dX1_nextChanged_13 rfl (lv_at hl 0 rfl) ?_
        refine r_iald (j := k) (v := ch k) hx hb hK.1 hP 1 0 rfl rfl (by omega) (by first | decide | omega) rfl dX1_nextChanged_14 ?_
        refine lv_iload_n hx hb dX1_nextChanged_15 rfl (lv_at hl 3 rfl) ?_
        refine lv_icmp_le (x := ch k) (y := x) (tgt := 41) hx hb dX1_nextChanged_16 (by decide) (fun c16 => ?_) (fun c16 => ?_)
        · refine lv_iinc (v := nI (k + 1)) (lv' := [(3, .int (nI (k + 1))), (2, .int (eP (nxS ch x k))), (0, .ref (z 0)), (1, .int x)]) hx hb dX1_nextChanged_41 hl (k := 0) rfl (nI_1 _) (by decide) rfl (fun ls hl => ?_)
          refine lv_goto (tgt := 4) hx hb dX1_nextChanged_44 (by decide) ?_
          have hl := lv_re (f := fun z9 => [(3, .int (nI (k + 1))), (2, .int z9), (0, .ref (z 0)), (1, .int x)]) hl (show eP (nxS ch x k) = eP (nxS ch x (k + 1)) from congrArg eP (show (nxS ch x k) = (nxS ch x (k + 1)) from by show _ = nxp ch x k (nxS ch x k); simp [nxp, c6, c16]))
          exact ih4 (k + 1) (by first | assumption | omega) (by omega)  ls  (lv_sub hl [0, 1, 2, 3] rfl)
        · refine lv_iload_n hx hb dX1_nextChanged_19 rfl (lv_at hl 1 rfl) ?_
          refine lv_iconst (v := -1) hx hb dX1_nextChanged_20 (by decide) ?_
          refine r_icmp_eqP hx hb (x := nxS ch x k) (by intro j9 h9; have := nxS_lt _ _ _ _ h9; omega) (tgt := 39) dX1_nextChanged_21 (by decide) (fun c21 => ?_) (fun j21 c21 => ?_)
          · have hl := lv_re (f := fun z9 => [(3, .int (nI k)), (2, .int z9), (0, .ref (z 0)), (1, .int x)]) hl (show eP (nxS ch x k) = eP none from congrArg eP c21)
            refine lv_iload_n hx hb dX1_nextChanged_39 rfl (lv_at hl 0 rfl) ?_
            refine lv_istore_n (lv' := [(2, .int (nI k)), (3, .int (nI k)), (0, .ref (z 0)), (1, .int x)]) hx hb dX1_nextChanged_40 rfl hl (by decide) rfl (fun ls hl => ?_)
            refine lv_iinc (v := nI (k + 1)) (lv' := [(3, .int (nI (k + 1))), (2, .int (nI k)), (0, .ref (z 0)), (1, .int x)]) hx hb dX1_nextChanged_41 hl (k := 1) rfl (nI_1 _) (by decide) rfl (fun ls hl => ?_)
            refine lv_goto (tgt := 4) hx hb dX1_nextChanged_44 (by decide) ?_
            have hl := lv_re (f := fun z9 => [(3, .int (nI (k + 1))), (2, .int z9), (0, .ref (z 0)), (1, .int x)]) hl (show nI k = eP (nxS ch x (k + 1)) from congrArg eP (show some k = (nxS ch x (k + 1)) from by show _ = nxp ch x k (nxS ch x k); simp [nxp, c6, c16, c21]))
            exact ih4 (k + 1) (by first | assumption | omega) (by omega)  ls  (lv_sub hl [0, 1, 2, 3] rfl)
          · have hl := lv_re (f := fun z9 => [(3, .int (nI k)), (2, .int z9), (0, .ref (z 0)), (1, .int x)]) hl (show eP (nxS ch x k) = nI j21 from congrArg eP c21)
            have e24 := nxS_lt _ _ _ _ c21
            refine lv_aload_n hx hb dX1_nextChanged_24 rfl (lv_at hl 2 rfl) ?_
            refine va_get (D := D) (ci := 1) (v := .ref (z 1)) (C := RX1) (T := TX1) (N := 5) hx hb hts (fun _ h => List.mem_cons_of_mem _ (List.mem_append_right _ h)) hown hK.1 hP 0 rfl rfl 3 (by decide) (hts (.fieldLink RX1 25 "RevisionStores$Store" "changes" "[I") (List.mem_of_getElem? (i := 1) rfl)) (fun _ h9 => h9) rfl dX1_nextChanged_25 ?_
            refine lv_iload_n hx hb dX1_nextChanged_28 rfl (lv_at hl 0 rfl) ?_
            refine r_iald (j := k) (v := ch k) hx hb hK.1 hP 1 0 rfl rfl (by omega) (by first | decide | omega) rfl dX1_nextChanged_29 ?_
            refine lv_aload_n hx hb dX1_nextChanged_30 rfl (lv_at hl 2 rfl) ?_
            refine va_get (D := D) (ci := 1) (v := .ref (z 1)) (C := RX1) (T := TX1) (N := 5) hx hb hts (fun _ h => List.mem_cons_of_mem _ (List.mem_append_right _ h)) hown hK.1 hP 0 rfl rfl 3 (by decide) (hts (.fieldLink RX1 25 "RevisionStores$Store" "changes" "[I") (List.mem_of_getElem? (i := 1) rfl)) (fun _ h9 => h9) rfl dX1_nextChanged_31 ?_
            refine lv_iload_n hx hb dX1_nextChanged_34 rfl (lv_at hl 1 rfl) ?_
            refine r_iald (j := j21) (v := ch j21) hx hb hK.1 hP 1 0 rfl rfl (by omega) (by first | decide | omega) rfl dX1_nextChanged_35 ?_
            refine lv_icmp_ge (x := ch k) (y := ch j21) (tgt := 41) hx hb dX1_nextChanged_36 (by decide) (fun c36 => ?_) (fun c36 => ?_)
            · refine lv_iinc (v := nI (k + 1)) (lv' := [(3, .int (nI (k + 1))), (2, .int (nI j21)), (0, .ref (z 0)), (1, .int x)]) hx hb dX1_nextChanged_41 hl (k := 0) rfl (nI_1 _) (by decide) rfl (fun ls hl => ?_)
              refine lv_goto (tgt := 4) hx hb dX1_nextChanged_44 (by decide) ?_
              have hl := lv_re (f := fun z9 => [(3, .int (nI (k + 1))), (2, .int z9), (0, .ref (z 0)), (1, .int x)]) hl (show nI j21 = eP (nxS ch x (k + 1)) from congrArg eP (show some j21 = (nxS ch x (k + 1)) from by show _ = nxp ch x k (nxS ch x k); simp [nxp, c6, c16, c21, c36]))
              exact ih4 (k + 1) (by first | assumption | omega) (by omega)  ls  (lv_sub hl [0, 1, 2, 3] rfl)
            · refine lv_iload_n hx hb dX1_nextChanged_39 rfl (lv_at hl 0 rfl) ?_
              refine lv_istore_n (lv' := [(2, .int (nI k)), (3, .int (nI k)), (0, .ref (z 0)), (1, .int x)]) hx hb dX1_nextChanged_40 rfl hl (by decide) rfl (fun ls hl => ?_)
              refine lv_iinc (v := nI (k + 1)) (lv' := [(3, .int (nI (k + 1))), (2, .int (nI k)), (0, .ref (z 0)), (1, .int x)]) hx hb dX1_nextChanged_41 hl (k := 1) rfl (nI_1 _) (by decide) rfl (fun ls hl => ?_)
              refine lv_goto (tgt := 4) hx hb dX1_nextChanged_44 (by decide) ?_
              have hl := lv_re (f := fun z9 => [(3, .int (nI (k + 1))), (2, .int z9), (0, .ref (z 0)), (1, .int x)]) hl (show nI k = eP (nxS ch x (k + 1)) from congrArg eP (show some k = (nxS ch x (k + 1)) from by show _ = nxp ch x k (nxS ch x k); simp [nxp, c6, c16, c21, c36]))
              exact ih4 (k + 1) (by first | assumption | omega) (by omega)  ls  (lv_sub hl [0, 1, 2, 3] rfl)
  have hl := lv_re (f := fun z9 => [(3, .int (nI 0)), (2, .int z9), (0, .ref (z 0)), (1, .int x)]) hl (show eP none = eP (nxS ch x 0) from congrArg eP (show none = (nxS ch x 0) from rfl))
  exact key4 ((4 - 0) + 1) 0 (by first | assumption | omega) (Nat.lt_succ_self _)  ls  (lv_sub hl [0, 1, 2, 3] rfl)
set_option maxHeartbeats 8000000 in
set_option maxRecDepth 100000 in
theorem cX1_countChanged_ok (l : Launch) (D : va_G) (ct : Nat → ClassId) (z : Nat → Nat) (dp : Int32) (lt : Int32) (ch : Nat → Int32) (ck : Nat → Int32) (h : Nat → Nat) (x : Int32)  : Met l yX1_countChanged wsX1_countChanged ({ frames := 0, cells := 0, slots := 0, locals := 0 } : Room) (roPc D ct [.ref (z 0), .int x] (wS ct z h dp lt ch ck)) (rqI (nI (fct (ccC ch x) 4))) 0 0 (fun _ => False) := by
  refine Met.ofW (cc := cX1_countChanged) (maxL := 4) (ret := (some .int)) (by decide) rfl ?_
  intro p e s m args below meth c s₁ B hml hv
  obtain ⟨rfl, hP, hK⟩ := hv
  have hx := B.exec
  have hb := B.bytes
  have hr := B.returns
  have hts := atoms_spec (ws := wsX1_countChanged) B.pre
  have hown : s.vm.findClass RX1 = some m.cls := findClass_of_methodNamed B.named
  have hlocks := B.notSynchronized
  have hl := lv_entry ([.ref (z 0), .int x]) (n := 4) (Nat.le_of_ble_eq_true rfl)
  rw [lg_entry_eq]
  generalize (lg_sl ([.ref (z 0), .int x]) ++ List.replicate (4 - (lg_sl ([.ref (z 0), .int x])).length) Slot.unset).toArray = ls at hl ⊢
  have hl : lv_has ls 4 [(0, .ref (z 0)), (1, .int x)] := hl
  refine lv_iconst (v := nI 0) hx hb dX1_countChanged_0 (by decide) ?_
  refine lv_istore_n (lv' := [(2, .int (nI 0)), (0, .ref (z 0)), (1, .int x)]) hx hb dX1_countChanged_1 rfl hl (by decide) rfl (fun ls hl => ?_)
  refine lv_iconst (v := nI 0) hx hb dX1_countChanged_2 (by decide) ?_
  refine lv_istore_n (lv' := [(3, .int (nI 0)), (2, .int (nI 0)), (0, .ref (z 0)), (1, .int x)]) hx hb dX1_countChanged_3 rfl hl (by decide) rfl (fun ls hl => ?_)
  have key4 : ∀ (d4 : Nat) (k : Nat) (hk : k ≤ 4), 4 - k < d4 → ∀  (ls : Array Slot), lv_has ls 4 [(3, .int (nI k)), (2, .int (nI (fct (ccC ch x) k))), (0, .ref (z 0)), (1, .int x)] → W p l e ({ frames := 0, cells := 0, slots := 0, locals := 0 } : Room) s m ([.ref (z 0), .int x] : List Value).toArray below meth c s.heap [] 0 0 (MQ below (rqI (nI (fct (ccC ch x) 4))) ([.ref (z 0), .int x] : List Value).toArray s 0 0 (fun _ => False)) (F0 m 4 ls []) := by
    intro d4
    induction d4 with
    | zero => intro k hk h9; exact absurd h9 (Nat.not_lt_zero _)
    | succ d4 ih4 =>
      intro k hk hm4  ls  hl
      refine lv_iload_n hx hb dX1_countChanged_4 rfl (lv_at hl 0 rfl) ?_
      refine lv_iconst (v := nI 4) hx hb dX1_countChanged_5 (by decide) ?_
      refine r_icmp_geN hx hb (x := k) (y := 4) (by first | omega | decide) (by first | omega | decide) (tgt := 28) dX1_countChanged_6 (by decide) (fun c6 => ?_) (fun c6 => ?_)
      · refine lv_iload_n hx hb dX1_countChanged_28 rfl (lv_at hl 1 rfl) ?_
        refine r_top (y := nI (fct (ccC ch x) 4)) (congrArg nI (show (fct (ccC ch x) k) = (fct (ccC ch x) 4) from by rw [show k = 4 by omega])) ?_
        exact W.iret hx hb hr (fun t ht hW => ⟨_, rfl, rfl, ht⟩) (fun _ h => by cases h) dX1_countChanged_29
      · refine lv_aload_n hx hb dX1_countChanged_9 rfl (lv_at hl 2 rfl) ?_
        refine va_get (D := D) (ci := 1) (v := .ref (z 1)) (C := RX1) (T := TX1) (N := 5) hx hb hts (fun _ h => List.mem_cons_of_mem _ (List.mem_append_right _ h)) hown hK.1 hP 0 rfl rfl 3 (by decide) (hts (.fieldLink RX1 25 "RevisionStores$Store" "changes" "[I") (List.mem_of_getElem? (i := 1) rfl)) (fun _ h9 => h9) rfl dX1_countChanged_10 ?_
        refine lv_iload_n hx hb dX1_countChanged_13 rfl (lv_at hl 0 rfl) ?_
        refine r_iald (j := k) (v := ch k) hx hb hK.1 hP 1 0 rfl rfl (by omega) (by first | decide | omega) rfl dX1_countChanged_14 ?_
        refine lv_iload_n hx hb dX1_countChanged_15 rfl (lv_at hl 3 rfl) ?_
        refine lv_icmp_le (x := ch k) (y := x) (tgt := 22) hx hb dX1_countChanged_16 (by decide) (fun c16 => ?_) (fun c16 => ?_)
        · refine lv_iinc (v := nI (k + 1)) (lv' := [(3, .int (nI (k + 1))), (2, .int (nI (fct (ccC ch x) k))), (0, .ref (z 0)), (1, .int x)]) hx hb dX1_countChanged_22 hl (k := 0) rfl (nI_1 _) (by decide) rfl (fun ls hl => ?_)
          refine lv_goto (tgt := 4) hx hb dX1_countChanged_25 (by decide) ?_
          have hl := lv_re (f := fun z9 => [(3, .int (nI (k + 1))), (2, .int z9), (0, .ref (z 0)), (1, .int x)]) hl (show nI (fct (ccC ch x) k) = nI (fct (ccC ch x) (k + 1)) from congrArg nI (show (fct (ccC ch x) k) = (fct (ccC ch x) (k + 1)) from by simp [fct, ccC, c6, c16]))
          exact ih4 (k + 1) (by first | assumption | omega) (by omega)  ls  (lv_sub hl [0, 1, 2, 3] rfl)
        · refine lv_iinc (v := nI (fct (ccC ch x) k + 1)) (lv' := [(2, .int (nI (fct (ccC ch x) k + 1))), (3, .int (nI k)), (0, .ref (z 0)), (1, .int x)]) hx hb dX1_countChanged_19 hl (k := 1) rfl (nI_1 _) (by decide) rfl (fun ls hl => ?_)
          refine lv_iinc (v := nI (k + 1)) (lv' := [(3, .int (nI (k + 1))), (2, .int (nI (fct (ccC ch x) k + 1))), (0, .ref (z 0)), (1, .int x)]) hx hb dX1_countChanged_22 hl (k := 1) rfl (nI_1 _) (by decide) rfl (fun ls hl => ?_)
          refine lv_goto (tgt := 4) hx hb dX1_countChanged_25 (by decide) ?_
          have hl := lv_re (f := fun z9 => [(3, .int (nI (k + 1))), (2, .int z9), (0, .ref (z 0)), (1, .int x)]) hl (show nI (fct (ccC ch x) k + 1) = nI (fct (ccC ch x) (k + 1)) from congrArg nI (show (fct (ccC ch x) k + 1) = (fct (ccC ch x) (k + 1)) from by simp [fct, ccC, c6, c16]))
          exact ih4 (k + 1) (by first | assumption | omega) (by omega)  ls  (lv_sub hl [0, 1, 2, 3] rfl)
  exact key4 ((4 - 0) + 1) 0 (by first | assumption | omega) (Nat.lt_succ_self _)  ls  (lv_sub hl [0, 1, 2, 3] rfl)
set_option maxHeartbeats 8000000 in
set_option maxRecDepth 100000 in
theorem cX1_noteChange_ok (l : Launch) (D : va_G) (ct : Nat → ClassId) (z : Nat → Nat) (dp : Int32) (lt : Int32) (ch : Nat → Int32) (ck : Nat → Int32) (h : Nat → Nat) (hd : Nat → Bool) (nl : Nat → Nat) (wi : Nat → Option Nat) (a : Nat → Nat) (n : Nat) (dc : Nat → Nat) (pa : Nat → Option Nat) (va : Nat → Int32) (dl : Nat → Bool) (ge : Nat → Nat) (su : Nat → Int32) (d : Nat) (hn : n ≤ 150) (hTd : ∀ k, dc k < 4) (hTg : ∀ k, ge k ≤ 150) (hTp : ∀ k j, k < n → pa k = some j → j < k) (hd4 : d < 4) (sz : Nat) : Met l yX1_noteChange wsX1_noteChange ({ frames := 4, cells := 0, slots := 0, locals := 87 } : Room) (wrPc D ct [.ref (z 0), .ref (a 0), .int (nI d)] (wS ct z h dp lt ch ck ++ wH ct h hd nl wi ++ wT ct a n dc pa va dl ge su) sz) (wqV D (wS ct z h dp (lt + nI 1) (va_up ch d (lt + nI 1)) ck ++ wH ct h (stm hd (flS pa ge hd n n) ge dp n) (flS pa ge hd n n) (fwS dc dl ge su (ends hd (flS pa ge hd n n)) n) ++ wT ct a n dc pa va dl ge su) (va_A (wS ct z h dp lt ch ck ++ wH ct h hd nl wi ++ wT ct a n dc pa va dl ge su) sz)) 0 0 (va_A (wS ct z h dp lt ch ck ++ wH ct h hd nl wi ++ wT ct a n dc pa va dl ge su) sz) := by
  refine Met.ofW (cc := cX1_noteChange) (maxL := 3) (ret := none) (by decide) rfl ?_
  intro p e s m args below meth c s₁ B hml hv
  obtain ⟨rfl, hsz, hP, hK, hD0⟩ := hv
  have hx := B.exec
  have hb := B.bytes
  have hr := B.returns
  have hts := atoms_spec (ws := wsX1_noteChange) B.pre
  have hown : s.vm.findClass RX1 = some m.cls := findClass_of_methodNamed B.named
  have hlocks := B.notSynchronized
  subst hsz
  have hD := hD0.self (sz := s.heap.size)
  generalize hAe : va_A (wS ct z h dp lt ch ck ++ wH ct h hd nl wi ++ wT ct a n dc pa va dl ge su) s.heap.size = A at hD ⊢
  have hA : ∀ q : Nat, s.heap.size ≤ q → A q := fun q h => by rw [← hAe]; exact Or.inr h
  have hS : va_S A s.heap s.heap [] := va_S.rf
  have hP : va_P D vwCl (wS ct z h dp lt ch ck ++ wH ct h hd nl wi ++ wT ct a n dc pa va dl ge su) s.heap := hP
  clear hAe hD0
  have hl := lv_entry ([.ref (z 0), .ref (a 0), .int (nI d)]) (n := 3) (Nat.le_of_ble_eq_true rfl)
  rw [lg_entry_eq]
  generalize (lg_sl ([.ref (z 0), .ref (a 0), .int (nI d)]) ++ List.replicate (3 - (lg_sl ([.ref (z 0), .ref (a 0), .int (nI d)])).length) Slot.unset).toArray = ls at hl ⊢
  have hl : lv_has ls 3 [(0, .ref (z 0)), (1, .ref (a 0)), (2, .int (nI d))] := hl
  have hH0 : s.heap.size ≤ s.heap.size := Nat.le_refl _
  refine lv_aload_n hx hb dX1_noteChange_0 rfl (lv_at hl 0 rfl) ?_
  refine lv_dup hx hb dX1_noteChange_1 rfl ?_
  refine va_get (D := D) (ci := 1) (v := .int lt) (C := RX1) (T := TX1) (N := 5) hx hb hts (fun _ h => List.mem_cons_of_mem _ (List.mem_append_left _ (List.mem_append_left _ (List.mem_append_right _ h)))) hown hK.1 hP 0 rfl rfl 2 (by decide) (hts (.fieldLink RX1 22 "RevisionStores$Store" "latest" "I") (List.mem_of_getElem? (i := 1) rfl)) (fun _ h9 => h9) rfl dX1_noteChange_2 ?_
  refine lv_iconst (v := nI 1) hx hb dX1_noteChange_5 (by decide) ?_
  refine lv_iadd hx hb dX1_noteChange_6 ?_
  refine va_put (D := D) (ci := 1) (v := .int (lt + (nI 1))) (ty := .int) (C := RX1) (T := TX1) (N := 5) hx hb hts (fun _ h => List.mem_cons_of_mem _ (List.mem_append_left _ (List.mem_append_left _ (List.mem_append_right _ h)))) tyX1 tyX1_ok nmX1 hown hK.1 hP hD hS 0 rfl rfl 2 (by decide) (hts (.fieldLink RX1 22 "RevisionStores$Store" "latest" "I") (List.mem_of_getElem? (i := 1) rfl)) (fun _ h9 => h9) rfl (by decide +kernel) rfl rfl (Nat.le_of_ble_eq_true rfl) dX1_noteChange_7 (fun H locs hP hD hS => ?_)
  have hP : va_P D vwCl (wS ct z h dp (lt + (nI 1)) ch ck ++ wH ct h hd nl wi ++ wT ct a n dc pa va dl ge su) H := hP
  have hD : va_D A (wS ct z h dp (lt + (nI 1)) ch ck ++ wH ct h hd nl wi ++ wT ct a n dc pa va dl ge su) := hD
  refine lv_aload_n hx hb dX1_noteChange_10 rfl (lv_at hl 0 rfl) ?_
  refine va_get (D := D) (ci := 1) (v := .ref (z 1)) (C := RX1) (T := TX1) (N := 5) hx hb hts (fun _ h => List.mem_cons_of_mem _ (List.mem_append_left _ (List.mem_append_left _ (List.mem_append_right _ h)))) hown hK.1 hP 0 rfl rfl 3 (by decide) (hts (.fieldLink RX1 25 "RevisionStores$Store" "changes" "[I") (List.mem_of_getElem? (i := 2) rfl)) (fun _ h9 => h9) rfl dX1_noteChange_11 ?_
  refine lv_iload_n hx hb dX1_noteChange_14 rfl (lv_at hl 2 rfl) ?_
  refine lv_aload_n hx hb dX1_noteChange_15 rfl (lv_at hl 0 rfl) ?_
  refine va_get (D := D) (ci := 1) (v := .int (lt + (nI 1))) (C := RX1) (T := TX1) (N := 5) hx hb hts (fun _ h => List.mem_cons_of_mem _ (List.mem_append_left _ (List.mem_append_left _ (List.mem_append_right _ h)))) hown hK.1 hP 0 rfl rfl 2 (by decide) (hts (.fieldLink RX1 22 "RevisionStores$Store" "latest" "I") (List.mem_of_getElem? (i := 1) rfl)) (fun _ h9 => h9) rfl dX1_noteChange_16 ?_
  refine r_iast (j := d) (x := (lt + (nI 1))) (f' := va_up ch d (lt + (nI 1))) hx hb hK.1 hP hD hS 1 0 rfl rfl (by omega) (by first | decide | omega) (up_i _ _ _) dX1_noteChange_19 (fun H locs hP hD hS => ?_)
  have hP : va_P D vwCl (wS ct z h dp (lt + (nI 1)) (va_up ch d (lt + (nI 1))) ck ++ wH ct h hd nl wi ++ wT ct a n dc pa va dl ge su) H := hP
  have hD : va_D A (wS ct z h dp (lt + (nI 1)) (va_up ch d (lt + (nI 1))) ck ++ wH ct h hd nl wi ++ wT ct a n dc pa va dl ge su) := hD
  refine lv_aload_n hx hb dX1_noteChange_20 rfl (lv_at hl 0 rfl) ?_
  refine va_get (D := D) (ci := 1) (v := .ref (h 0)) (C := RX1) (T := TX1) (N := 5) hx hb hts (fun _ h => List.mem_cons_of_mem _ (List.mem_append_left _ (List.mem_append_left _ (List.mem_append_right _ h)))) hown hK.1 hP 0 rfl rfl 0 (by decide) (hts (.fieldLink RX1 12 "RevisionStores$Store" "holding" "LRevisionStores$Holding;") (List.mem_of_getElem? (i := 3) rfl)) (fun _ h9 => h9) rfl dX1_noteChange_21 ?_
  refine lv_aload_n hx hb dX1_noteChange_24 rfl (lv_at hl 1 rfl) ?_
  refine r_wVv (As := [.ref (a 0)]) (rest := []) ⟨hx, hb, hml, hown, hts⟩ (cX0_survey_ok l D ct h hd nl wi a n dc pa va dl ge su (by first | assumption | omega) (by first | assumption | omega) (by first | assumption | omega) (by first | assumption | omega) H.size) (cwV 1 hts gX1_noteChange_X0_survey rfl rfl rfl (by decide +kernel) ⟨Nat.le_of_ble_eq_true rfl, Nat.le_of_ble_eq_true rfl⟩) hK hP hD hS hA [3, 4, 5, 6, 7, 8, 9, 10, 11, 12, 13] rfl rfl rfl 0 0 rfl rfl rfl hl.1 rfl (Nat.le_of_ble_eq_true rfl) dX1_noteChange_25 ⟨Nat.le_of_ble_eq_true rfl, Nat.le_of_ble_eq_true rfl⟩ (fun H locs hP hD hS => ?_)
  have hP : va_P D vwCl (wS ct z h dp (lt + (nI 1)) (va_up ch d (lt + (nI 1))) ck ++ wH ct h hd (flS pa ge hd n n) (fwS dc dl ge su (ends hd (flS pa ge hd n n)) n) ++ wT ct a n dc pa va dl ge su) H := hP
  have hD : va_D A (wS ct z h dp (lt + (nI 1)) (va_up ch d (lt + (nI 1))) ck ++ wH ct h hd (flS pa ge hd n n) (fwS dc dl ge su (ends hd (flS pa ge hd n n)) n) ++ wT ct a n dc pa va dl ge su) := hD
  refine lv_aload_n hx hb dX1_noteChange_28 rfl (lv_at hl 0 rfl) ?_
  refine va_get (D := D) (ci := 1) (v := .ref (h 0)) (C := RX1) (T := TX1) (N := 5) hx hb hts (fun _ h => List.mem_cons_of_mem _ (List.mem_append_left _ (List.mem_append_left _ (List.mem_append_right _ h)))) hown hK.1 hP 0 rfl rfl 0 (by decide) (hts (.fieldLink RX1 12 "RevisionStores$Store" "holding" "LRevisionStores$Holding;") (List.mem_of_getElem? (i := 3) rfl)) (fun _ h9 => h9) rfl dX1_noteChange_29 ?_
  refine lv_aload_n hx hb dX1_noteChange_32 rfl (lv_at hl 1 rfl) ?_
  refine lv_aload_n hx hb dX1_noteChange_33 rfl (lv_at hl 0 rfl) ?_
  refine va_get (D := D) (ci := 1) (v := .int dp) (C := RX1) (T := TX1) (N := 5) hx hb hts (fun _ h => List.mem_cons_of_mem _ (List.mem_append_left _ (List.mem_append_left _ (List.mem_append_right _ h)))) hown hK.1 hP 0 rfl rfl 1 (by decide) (hts (.fieldLink RX1 18 "RevisionStores$Store" "depth" "I") (List.mem_of_getElem? (i := 4) rfl)) (fun _ h9 => h9) rfl dX1_noteChange_34 ?_
  refine r_wVi (As := [.ref (a 0), .int dp]) (rest := []) ⟨hx, hb, hml, hown, hts⟩ (cX0_stem_ok l D ct h hd (flS pa ge hd n n) (fwS dc dl ge su (ends hd (flS pa ge hd n n)) n) a n dc pa va dl ge su dp (by first | assumption | omega) (by first | assumption | omega) (fun k => flS_le _ k) H.size) (cwV 2 hts gX1_noteChange_X0_stem rfl rfl rfl (by decide +kernel) ⟨Nat.le_of_ble_eq_true rfl, Nat.le_of_ble_eq_true rfl⟩) hK hP hD hS hA [3, 4, 5, 6, 7, 8, 9, 10, 11, 12, 13] rfl rfl rfl 0 0 rfl rfl rfl hl.1 rfl (Nat.le_of_ble_eq_true rfl) dX1_noteChange_37 ⟨Nat.le_of_ble_eq_true rfl, Nat.le_of_ble_eq_true rfl⟩ (fun H locs hP hD hS => ?_)
  have hP : va_P D vwCl (wS ct z h dp (lt + (nI 1)) (va_up ch d (lt + (nI 1))) ck ++ wH ct h (stm hd (flS pa ge hd n n) ge dp n) (flS pa ge hd n n) (fwS dc dl ge su (ends hd (flS pa ge hd n n)) n) ++ wT ct a n dc pa va dl ge su) H := hP
  have hD : va_D A (wS ct z h dp (lt + (nI 1)) (va_up ch d (lt + (nI 1))) ck ++ wH ct h (stm hd (flS pa ge hd n n) ge dp n) (flS pa ge hd n n) (fwS dc dl ge su (ends hd (flS pa ge hd n n)) n) ++ wT ct a n dc pa va dl ge su) := hD
  refine lv_pop hx hb dX1_noteChange_40 rfl ?_
  have hP : va_P D vwCl (wS ct z h dp (lt + nI 1) (va_up ch d (lt + nI 1)) ck ++ wH ct h (stm hd (flS pa ge hd n n) ge dp n) (flS pa ge hd n n) (fwS dc dl ge su (ends hd (flS pa ge hd n n)) n) ++ wT ct a n dc pa va dl ge su) H := hP
  exact W.vret hx hb hr (fun t ht hW => ⟨⟨(), rfl, trivial, by show va_P D vwCl _ t.heap; rw [ht]; exact hP⟩, hS.F ht⟩) hS.2.2 dX1_noteChange_41
set_option maxHeartbeats 8000000 in
set_option maxRecDepth 100000 in
theorem cX1_append_ok (l : Launch) (D : va_G) (ct : Nat → ClassId) (z : Nat → Nat) (dp : Int32) (lt : Int32) (ch : Nat → Int32) (ck : Nat → Int32) (h : Nat → Nat) (hd : Nat → Bool) (nl : Nat → Nat) (wi : Nat → Option Nat) (a : Nat → Nat) (n : Nat) (dc : Nat → Nat) (pa : Nat → Option Nat) (va : Nat → Int32) (dl : Nat → Bool) (ge : Nat → Nat) (su : Nat → Int32) (k : Nat) (hn : n ≤ 150) (hTd : ∀ k, dc k < 4) (hTg : ∀ k, ge k ≤ 150) (hTp : ∀ k j, k < n → pa k = some j → j < k) (hk : k < n) (sz : Nat) : Met l yX1_append wsX1_append ({ frames := 5, cells := 0, slots := 0, locals := 109 } : Room) (wrPc D ct [.ref (z 0), .ref (a 0), .int (nI k)] (wS ct z h dp lt ch ck ++ wH ct h hd nl wi ++ wT ct a n dc pa va dl ge su) sz) (wqV D (wS ct z h dp (lt + nI 1) (va_up ch (dc k) (lt + nI 1)) ck ++ wH ct h (stm (va_up hd k true) (flS pa ge (va_up hd k true) n n) ge dp n) (flS pa ge (va_up hd k true) n n) (fwS dc dl ge su (ends (va_up hd k true) (flS pa ge (va_up hd k true) n n)) n) ++ wT ct a n dc pa va dl ge su) (va_A (wS ct z h dp lt ch ck ++ wH ct h hd nl wi ++ wT ct a n dc pa va dl ge su) sz)) 0 0 (va_A (wS ct z h dp lt ch ck ++ wH ct h hd nl wi ++ wT ct a n dc pa va dl ge su) sz) := by
  refine Met.ofW (cc := cX1_append) (maxL := 3) (ret := none) (by decide) rfl ?_
  intro p e s m args below meth c s₁ B hml hv
  obtain ⟨rfl, hsz, hP, hK, hD0⟩ := hv
  have hx := B.exec
  have hb := B.bytes
  have hr := B.returns
  have hts := atoms_spec (ws := wsX1_append) B.pre
  have hown : s.vm.findClass RX1 = some m.cls := findClass_of_methodNamed B.named
  have hlocks := B.notSynchronized
  subst hsz
  have hD := hD0.self (sz := s.heap.size)
  generalize hAe : va_A (wS ct z h dp lt ch ck ++ wH ct h hd nl wi ++ wT ct a n dc pa va dl ge su) s.heap.size = A at hD ⊢
  have hA : ∀ q : Nat, s.heap.size ≤ q → A q := fun q h => by rw [← hAe]; exact Or.inr h
  have hS : va_S A s.heap s.heap [] := va_S.rf
  have hP : va_P D vwCl (wS ct z h dp lt ch ck ++ wH ct h hd nl wi ++ wT ct a n dc pa va dl ge su) s.heap := hP
  clear hAe hD0
  have hl := lv_entry ([.ref (z 0), .ref (a 0), .int (nI k)]) (n := 3) (Nat.le_of_ble_eq_true rfl)
  rw [lg_entry_eq]
  generalize (lg_sl ([.ref (z 0), .ref (a 0), .int (nI k)]) ++ List.replicate (3 - (lg_sl ([.ref (z 0), .ref (a 0), .int (nI k)])).length) Slot.unset).toArray = ls at hl ⊢
  have hl : lv_has ls 3 [(0, .ref (z 0)), (1, .ref (a 0)), (2, .int (nI k))] := hl
  have hH0 : s.heap.size ≤ s.heap.size := Nat.le_refl _
  refine lv_aload_n hx hb dX1_append_0 rfl (lv_at hl 0 rfl) ?_
  refine va_get (D := D) (ci := 1) (v := .ref (h 0)) (C := RX1) (T := TX1) (N := 5) hx hb hts (fun _ h => List.mem_cons_of_mem _ (List.mem_append_left _ (List.mem_append_left _ (List.mem_append_right _ h)))) hown hK.1 hP 0 rfl rfl 0 (by decide) (hts (.fieldLink RX1 12 "RevisionStores$Store" "holding" "LRevisionStores$Holding;") (List.mem_of_getElem? (i := 1) rfl)) (fun _ h9 => h9) rfl dX1_append_1 ?_
  refine va_getN (D := D) (ci := 0) (v := .ref (h 1)) (C := RX0) (T := TX0) (N := 3) hx hb hts (fun _ h => List.mem_cons_of_mem _ (List.mem_append_left _ (List.mem_append_right _ h))) hown hK.1 hP 3 rfl rfl 0 (by decide) (va_Nw.use rfl (hK.2 _ (List.mem_of_getElem? (i := 22) rfl))) (fun _ h9 => h9) rfl dX1_append_4 ?_
  refine lv_iload_n hx hb dX1_append_7 rfl (lv_at hl 2 rfl) ?_
  refine lv_iconst (v := nI 1) hx hb dX1_append_8 (by decide) ?_
  refine r_zast (j := k) (x := true) (f' := fun q9 => bI ((va_up hd k true) q9)) hx hb hK.1 hP hD hS 4 1 rfl rfl (by omega) (by first | decide | omega) (up_b _ _ _) dX1_append_9 (fun H locs hP hD hS => ?_)
  have hP : va_P D vwCl (wS ct z h dp lt ch ck ++ wH ct h (va_up hd k true) nl wi ++ wT ct a n dc pa va dl ge su) H := hP
  have hD : va_D A (wS ct z h dp lt ch ck ++ wH ct h (va_up hd k true) nl wi ++ wT ct a n dc pa va dl ge su) := hD
  refine lv_aload_n hx hb dX1_append_10 rfl (lv_at hl 0 rfl) ?_
  refine lv_aload_n hx hb dX1_append_11 rfl (lv_at hl 1 rfl) ?_
  refine lv_aload_n hx hb dX1_append_12 rfl (lv_at hl 1 rfl) ?_
  refine va_getN (D := D) (ci := 2) (v := .ref (a 1)) (C := RX2) (T := TX2) (N := 7) hx hb hts (fun _ h => List.mem_cons_of_mem _ (List.mem_append_right _ h)) hown hK.1 hP 7 rfl rfl 0 (by decide) (va_Nw.use rfl (hK.2 _ (List.mem_of_getElem? (i := 23) rfl))) (fun _ h9 => h9) rfl dX1_append_13 ?_
  refine lv_iload_n hx hb dX1_append_16 rfl (lv_at hl 2 rfl) ?_
  refine r_iald (j := k) (v := nI (dc k)) hx hb hK.1 hP 8 0 rfl rfl (by omega) (by first | decide | omega) rfl dX1_append_17 ?_
  refine r_wVv (As := [.ref (a 0), .int (nI (dc k))]) (rest := []) ⟨hx, hb, hml, hown, hts⟩ (cX1_noteChange_ok l D ct z dp lt ch ck h (va_up hd k true) nl wi a n dc pa va dl ge su (dc k) (by first | assumption | omega) (by first | assumption | omega) (by first | assumption | omega) (by first | assumption | omega) (hTd _) H.size) (cwV 2 hts gX1_append_X1_noteChange rfl rfl rfl (by decide +kernel) ⟨Nat.le_of_ble_eq_true rfl, Nat.le_of_ble_eq_true rfl⟩) hK hP hD hS hA [0, 1, 2, 3, 4, 5, 6, 7, 8, 9, 10, 11, 12, 13] rfl rfl rfl 0 1 rfl rfl rfl hl.1 rfl (Nat.le_of_ble_eq_true rfl) dX1_append_18 ⟨Nat.le_of_ble_eq_true rfl, Nat.le_of_ble_eq_true rfl⟩ (fun H locs hP hD hS => ?_)
  have hP : va_P D vwCl (wS ct z h dp (lt + nI 1) (va_up ch (dc k) (lt + nI 1)) ck ++ wH ct h (stm (va_up hd k true) (flS pa ge (va_up hd k true) n n) ge dp n) (flS pa ge (va_up hd k true) n n) (fwS dc dl ge su (ends (va_up hd k true) (flS pa ge (va_up hd k true) n n)) n) ++ wT ct a n dc pa va dl ge su) H := hP
  have hD : va_D A (wS ct z h dp (lt + nI 1) (va_up ch (dc k) (lt + nI 1)) ck ++ wH ct h (stm (va_up hd k true) (flS pa ge (va_up hd k true) n n) ge dp n) (flS pa ge (va_up hd k true) n n) (fwS dc dl ge su (ends (va_up hd k true) (flS pa ge (va_up hd k true) n n)) n) ++ wT ct a n dc pa va dl ge su) := hD
  exact W.vret hx hb hr (fun t ht hW => ⟨⟨(), rfl, trivial, by show va_P D vwCl _ t.heap; rw [ht]; exact hP⟩, hS.F ht⟩) hS.2.2 dX1_append_21
set_option maxHeartbeats 8000000 in
set_option maxRecDepth 100000 in
theorem cX1_clear_ok (l : Launch) (D : va_G) (ct : Nat → ClassId) (z : Nat → Nat) (dp : Int32) (lt : Int32) (ch : Nat → Int32) (ck : Nat → Int32) (h : Nat → Nat) (hd : Nat → Bool) (nl : Nat → Nat) (wi : Nat → Option Nat) (a : Nat → Nat) (n : Nat) (dc : Nat → Nat) (pa : Nat → Option Nat) (va : Nat → Int32) (dl : Nat → Bool) (ge : Nat → Nat) (su : Nat → Int32) (hn : n ≤ 150) (hTd : ∀ k, dc k < 4) (hTg : ∀ k, ge k ≤ 150) (hTp : ∀ k j, k < n → pa k = some j → j < k) (sz : Nat) : Met l yX1_clear wsX1_clear ({ frames := 4, cells := 0, slots := 0, locals := 87 } : Room) (wrPc D ct [.ref (z 0), .ref (a 0)] (wS ct z h dp lt ch ck ++ wH ct h hd nl wi ++ wT ct a n dc pa va dl ge su) sz) (wqV D (wS ct z h dp (nI 0) (fun _ => nI 0) (fun _ => nI 0) ++ wH ct h (rem hd 150) (flS pa ge (rem hd 150) n n) (fwS dc dl ge su (ends (rem hd 150) (flS pa ge (rem hd 150) n n)) n) ++ wT ct a n dc pa va dl ge su) (va_A (wS ct z h dp lt ch ck ++ wH ct h hd nl wi ++ wT ct a n dc pa va dl ge su) sz)) 0 0 (va_A (wS ct z h dp lt ch ck ++ wH ct h hd nl wi ++ wT ct a n dc pa va dl ge su) sz) := by
  refine Met.ofW (cc := cX1_clear) (maxL := 2) (ret := none) (by decide) rfl ?_
  intro p e s m args below meth c s₁ B hml hv
  obtain ⟨rfl, hsz, hP, hK, hD0⟩ := hv
  have hx := B.exec
  have hb := B.bytes
  have hr := B.returns
  have hts := atoms_spec (ws := wsX1_clear) B.pre
  have hown : s.vm.findClass RX1 = some m.cls := findClass_of_methodNamed B.named
  have hlocks := B.notSynchronized
  subst hsz
  have hD := hD0.self (sz := s.heap.size)
  generalize hAe : va_A (wS ct z h dp lt ch ck ++ wH ct h hd nl wi ++ wT ct a n dc pa va dl ge su) s.heap.size = A at hD ⊢
  have hA : ∀ q : Nat, s.heap.size ≤ q → A q := fun q h => by rw [← hAe]; exact Or.inr h
  have hS : va_S A s.heap s.heap [] := va_S.rf
  have hP : va_P D vwCl (wS ct z h dp lt ch ck ++ wH ct h hd nl wi ++ wT ct a n dc pa va dl ge su) s.heap := hP
  clear hAe hD0
  have hl := lv_entry ([.ref (z 0), .ref (a 0)]) (n := 2) (Nat.le_of_ble_eq_true rfl)
  rw [lg_entry_eq]
  generalize (lg_sl ([.ref (z 0), .ref (a 0)]) ++ List.replicate (2 - (lg_sl ([.ref (z 0), .ref (a 0)])).length) Slot.unset).toArray = ls at hl ⊢
  have hl : lv_has ls 2 [(0, .ref (z 0)), (1, .ref (a 0))] := hl
  have hH0 : s.heap.size ≤ s.heap.size := Nat.le_refl _
  refine lv_aload_n hx hb dX1_clear_0 rfl (lv_at hl 0 rfl) ?_
  refine va_get (D := D) (ci := 1) (v := .ref (h 0)) (C := RX1) (T := TX1) (N := 5) hx hb hts (fun _ h => List.mem_cons_of_mem _ (List.mem_append_left _ (List.mem_append_left _ (List.mem_append_right _ h)))) hown hK.1 hP 0 rfl rfl 0 (by decide) (hts (.fieldLink RX1 12 "RevisionStores$Store" "holding" "LRevisionStores$Holding;") (List.mem_of_getElem? (i := 1) rfl)) (fun _ h9 => h9) rfl dX1_clear_1 ?_
  refine r_wVv (As := []) (rest := []) ⟨hx, hb, hml, hown, hts⟩ (cX0_removeAll_ok l D ct h hd nl wi  s.heap.size) (cwV 0 hts gX1_clear_X0_removeAll rfl rfl rfl (by decide +kernel) ⟨Nat.le_of_ble_eq_true rfl, Nat.le_of_ble_eq_true rfl⟩) hK hP hD hS hA [3, 4, 5, 6] rfl rfl rfl 0 0 rfl rfl rfl hl.1 rfl (Nat.le_of_ble_eq_true rfl) dX1_clear_4 ⟨Nat.le_of_ble_eq_true rfl, Nat.le_of_ble_eq_true rfl⟩ (fun H locs hP hD hS => ?_)
  have hP : va_P D vwCl (wS ct z h dp lt ch ck ++ wH ct h (rem hd 150) nl wi ++ wT ct a n dc pa va dl ge su) H := hP
  have hD : va_D A (wS ct z h dp lt ch ck ++ wH ct h (rem hd 150) nl wi ++ wT ct a n dc pa va dl ge su) := hD
  refine lv_aload_n hx hb dX1_clear_7 rfl (lv_at hl 0 rfl) ?_
  refine va_get (D := D) (ci := 1) (v := .ref (h 0)) (C := RX1) (T := TX1) (N := 5) hx hb hts (fun _ h => List.mem_cons_of_mem _ (List.mem_append_left _ (List.mem_append_left _ (List.mem_append_right _ h)))) hown hK.1 hP 0 rfl rfl 0 (by decide) (hts (.fieldLink RX1 12 "RevisionStores$Store" "holding" "LRevisionStores$Holding;") (List.mem_of_getElem? (i := 1) rfl)) (fun _ h9 => h9) rfl dX1_clear_8 ?_
  refine lv_aload_n hx hb dX1_clear_11 rfl (lv_at hl 1 rfl) ?_
  refine r_wVv (As := [.ref (a 0)]) (rest := []) ⟨hx, hb, hml, hown, hts⟩ (cX0_survey_ok l D ct h (rem hd 150) nl wi a n dc pa va dl ge su (by first | assumption | omega) (by first | assumption | omega) (by first | assumption | omega) (by first | assumption | omega) H.size) (cwV 1 hts gX1_clear_X0_survey rfl rfl rfl (by decide +kernel) ⟨Nat.le_of_ble_eq_true rfl, Nat.le_of_ble_eq_true rfl⟩) hK hP hD hS hA [3, 4, 5, 6, 7, 8, 9, 10, 11, 12, 13] rfl rfl rfl 0 0 rfl rfl rfl hl.1 rfl (Nat.le_of_ble_eq_true rfl) dX1_clear_12 ⟨Nat.le_of_ble_eq_true rfl, Nat.le_of_ble_eq_true rfl⟩ (fun H locs hP hD hS => ?_)
  have hP : va_P D vwCl (wS ct z h dp lt ch ck ++ wH ct h (rem hd 150) (flS pa ge (rem hd 150) n n) (fwS dc dl ge su (ends (rem hd 150) (flS pa ge (rem hd 150) n n)) n) ++ wT ct a n dc pa va dl ge su) H := hP
  have hD : va_D A (wS ct z h dp lt ch ck ++ wH ct h (rem hd 150) (flS pa ge (rem hd 150) n n) (fwS dc dl ge su (ends (rem hd 150) (flS pa ge (rem hd 150) n n)) n) ++ wT ct a n dc pa va dl ge su) := hD
  refine lv_aload_n hx hb dX1_clear_15 rfl (lv_at hl 0 rfl) ?_
  refine lv_iconst (v := nI 0) hx hb dX1_clear_16 (by decide) ?_
  refine va_put (D := D) (ci := 1) (v := .int (nI 0)) (ty := .int) (C := RX1) (T := TX1) (N := 5) hx hb hts (fun _ h => List.mem_cons_of_mem _ (List.mem_append_left _ (List.mem_append_left _ (List.mem_append_right _ h)))) tyX1 tyX1_ok nmX1 hown hK.1 hP hD hS 0 rfl rfl 2 (by decide) (hts (.fieldLink RX1 22 "RevisionStores$Store" "latest" "I") (List.mem_of_getElem? (i := 2) rfl)) (fun _ h9 => h9) rfl (by decide +kernel) rfl rfl (Nat.le_of_ble_eq_true rfl) dX1_clear_17 (fun H locs hP hD hS => ?_)
  have hP : va_P D vwCl (wS ct z h dp (nI 0) ch ck ++ wH ct h (rem hd 150) (flS pa ge (rem hd 150) n n) (fwS dc dl ge su (ends (rem hd 150) (flS pa ge (rem hd 150) n n)) n) ++ wT ct a n dc pa va dl ge su) H := hP
  have hD : va_D A (wS ct z h dp (nI 0) ch ck ++ wH ct h (rem hd 150) (flS pa ge (rem hd 150) n n) (fwS dc dl ge su (ends (rem hd 150) (flS pa ge (rem hd 150) n n)) n) ++ wT ct a n dc pa va dl ge su) := hD
  refine lv_aload_n hx hb dX1_clear_20 rfl (lv_at hl 0 rfl) ?_
  refine va_get (D := D) (ci := 1) (v := .ref (z 1)) (C := RX1) (T := TX1) (N := 5) hx hb hts (fun _ h => List.mem_cons_of_mem _ (List.mem_append_left _ (List.mem_append_left _ (List.mem_append_right _ h)))) hown hK.1 hP 0 rfl rfl 3 (by decide) (hts (.fieldLink RX1 25 "RevisionStores$Store" "changes" "[I") (List.mem_of_getElem? (i := 3) rfl)) (fun _ h9 => h9) rfl dX1_clear_21 ?_
  refine lv_iconst (v := nI 0) hx hb dX1_clear_24 (by decide) ?_
  refine r_wSv (As := [.ref (z 1), .int (nI 0)]) (rest := []) ⟨hx, hb, hml, hown, hts⟩ (cJ7_fill_53178_ok l D ct (z 1) 4 ch (nI 0) (fun _ => nI 0) (by decide) (fun _ _ => rfl) H.size) (va_cwS 2 hts gX1_clear_J7_fill_53178 rfl rfl rfl (by decide +kernel) ⟨Nat.le_of_ble_eq_true rfl, Nat.le_of_ble_eq_true rfl⟩) hK hP hD hS hA [1] rfl rfl rfl rfl hl.1 rfl (Nat.le_of_ble_eq_true rfl) dX1_clear_25 ⟨Nat.le_of_ble_eq_true rfl, Nat.le_of_ble_eq_true rfl⟩ (fun H locs hP hD hS => ?_)
  have hP : va_P D vwCl (wS ct z h dp (nI 0) (fun _ => nI 0) ck ++ wH ct h (rem hd 150) (flS pa ge (rem hd 150) n n) (fwS dc dl ge su (ends (rem hd 150) (flS pa ge (rem hd 150) n n)) n) ++ wT ct a n dc pa va dl ge su) H := hP
  have hD : va_D A (wS ct z h dp (nI 0) (fun _ => nI 0) ck ++ wH ct h (rem hd 150) (flS pa ge (rem hd 150) n n) (fwS dc dl ge su (ends (rem hd 150) (flS pa ge (rem hd 150) n n)) n) ++ wT ct a n dc pa va dl ge su) := hD
  refine lv_aload_n hx hb dX1_clear_28 rfl (lv_at hl 0 rfl) ?_
  refine va_get (D := D) (ci := 1) (v := .ref (z 2)) (C := RX1) (T := TX1) (N := 5) hx hb hts (fun _ h => List.mem_cons_of_mem _ (List.mem_append_left _ (List.mem_append_left _ (List.mem_append_right _ h)))) hown hK.1 hP 0 rfl rfl 4 (by decide) (hts (.fieldLink RX1 29 "RevisionStores$Store" "checkpoints" "[I") (List.mem_of_getElem? (i := 4) rfl)) (fun _ h9 => h9) rfl dX1_clear_29 ?_
  refine lv_iconst (v := nI 0) hx hb dX1_clear_32 (by decide) ?_
  refine r_wSv (As := [.ref (z 2), .int (nI 0)]) (rest := []) ⟨hx, hb, hml, hown, hts⟩ (cJ7_fill_53178_ok l D ct (z 2) 9 ck (nI 0) (fun _ => nI 0) (by decide) (fun _ _ => rfl) H.size) (va_cwS 2 hts gX1_clear_J7_fill_53178 rfl rfl rfl (by decide +kernel) ⟨Nat.le_of_ble_eq_true rfl, Nat.le_of_ble_eq_true rfl⟩) hK hP hD hS hA [2] rfl rfl rfl rfl hl.1 rfl (Nat.le_of_ble_eq_true rfl) dX1_clear_33 ⟨Nat.le_of_ble_eq_true rfl, Nat.le_of_ble_eq_true rfl⟩ (fun H locs hP hD hS => ?_)
  have hP : va_P D vwCl (wS ct z h dp (nI 0) (fun _ => nI 0) (fun _ => nI 0) ++ wH ct h (rem hd 150) (flS pa ge (rem hd 150) n n) (fwS dc dl ge su (ends (rem hd 150) (flS pa ge (rem hd 150) n n)) n) ++ wT ct a n dc pa va dl ge su) H := hP
  have hD : va_D A (wS ct z h dp (nI 0) (fun _ => nI 0) (fun _ => nI 0) ++ wH ct h (rem hd 150) (flS pa ge (rem hd 150) n n) (fwS dc dl ge su (ends (rem hd 150) (flS pa ge (rem hd 150) n n)) n) ++ wT ct a n dc pa va dl ge su) := hD
  have hP : va_P D vwCl (wS ct z h dp (nI 0) (fun _ => nI 0) (fun _ => nI 0) ++ wH ct h (rem hd 150) (flS pa ge (rem hd 150) n n) (fwS dc dl ge su (ends (rem hd 150) (flS pa ge (rem hd 150) n n)) n) ++ wT ct a n dc pa va dl ge su) H := hP
  exact W.vret hx hb hr (fun t ht hW => ⟨⟨(), rfl, trivial, by show va_P D vwCl _ t.heap; rw [ht]; exact hP⟩, hS.F ht⟩) hS.2.2 dX1_clear_36
set_option maxHeartbeats 8000000 in
set_option maxRecDepth 100000 in
theorem cX1_receive_ok (l : Launch) (D : va_G) (ct : Nat → ClassId) (z : Nat → Nat) (dp : Int32) (lt : Int32) (ch : Nat → Int32) (ck : Nat → Int32) (h : Nat → Nat) (hd : Nat → Bool) (nl : Nat → Nat) (wi : Nat → Option Nat) (a : Nat → Nat) (n : Nat) (dc : Nat → Nat) (pa : Nat → Option Nat) (va : Nat → Int32) (dl : Nat → Bool) (ge : Nat → Nat) (su : Nat → Int32) (g : Nat → Nat) (hd2 : Nat → Bool) (nl2 : Nat → Nat) (wi2 : Nat → Option Nat) (d : Nat) (hn : n ≤ 150) (hTd : ∀ k, dc k < 4) (hTg : ∀ k, ge k ≤ 150) (hTp : ∀ k j, k < n → pa k = some j → j < k) (hNl : ∀ k, nl k ≤ 151) (hNl2 : ∀ k, nl2 k ≤ 151) (hd4 : d < 4) (sz : Nat) : Met l yX1_receive wsX1_receive ({ frames := 5, cells := 0, slots := 0, locals := 109 } : Room) (wrPc D ct [.ref (z 0), .ref (a 0), .ref (g 0), .int (nI d)] (wS ct z h dp lt ch ck ++ wH ct h hd nl wi ++ wT ct a n dc pa va dl ge su ++ wH ct g hd2 nl2 wi2) sz) (wqI D (nI ((abS dc pa hd2 (ends hd2 nl2) nl d hd n).1)) (wS ct z h dp (if 0 < (abS dc pa hd2 (ends hd2 nl2) nl d hd n).1 then lt + nI 1 else lt) (if 0 < (abS dc pa hd2 (ends hd2 nl2) nl d hd n).1 then va_up ch d (lt + nI 1) else ch) ck ++ wH ct h (if 0 < (abS dc pa hd2 (ends hd2 nl2) nl d hd n).1 then stm ((abS dc pa hd2 (ends hd2 nl2) nl d hd n).2) (flS pa ge ((abS dc pa hd2 (ends hd2 nl2) nl d hd n).2) n n) ge dp n else (abS dc pa hd2 (ends hd2 nl2) nl d hd n).2) (if 0 < (abS dc pa hd2 (ends hd2 nl2) nl d hd n).1 then flS pa ge ((abS dc pa hd2 (ends hd2 nl2) nl d hd n).2) n n else nl) (if 0 < (abS dc pa hd2 (ends hd2 nl2) nl d hd n).1 then fwS dc dl ge su (ends ((abS dc pa hd2 (ends hd2 nl2) nl d hd n).2) (flS pa ge ((abS dc pa hd2 (ends hd2 nl2) nl d hd n).2) n n)) n else wi) ++ wT ct a n dc pa va dl ge su ++ wH ct g hd2 nl2 wi2) (va_A (wS ct z h dp lt ch ck ++ wH ct h hd nl wi ++ wT ct a n dc pa va dl ge su ++ wH ct g hd2 nl2 wi2) sz)) 0 0 (va_A (wS ct z h dp lt ch ck ++ wH ct h hd nl wi ++ wT ct a n dc pa va dl ge su ++ wH ct g hd2 nl2 wi2) sz) := by
  refine Met.ofW (cc := cX1_receive) (maxL := 5) (ret := (some .int)) (by decide) rfl ?_
  intro p e s m args below meth c s₁ B hml hv
  obtain ⟨rfl, hsz, hP, hK, hD0⟩ := hv
  have hx := B.exec
  have hb := B.bytes
  have hr := B.returns
  have hts := atoms_spec (ws := wsX1_receive) B.pre
  have hown : s.vm.findClass RX1 = some m.cls := findClass_of_methodNamed B.named
  have hlocks := B.notSynchronized
  subst hsz
  have hD := hD0.self (sz := s.heap.size)
  generalize hAe : va_A (wS ct z h dp lt ch ck ++ wH ct h hd nl wi ++ wT ct a n dc pa va dl ge su ++ wH ct g hd2 nl2 wi2) s.heap.size = A at hD ⊢
  have hA : ∀ q : Nat, s.heap.size ≤ q → A q := fun q h => by rw [← hAe]; exact Or.inr h
  have hS : va_S A s.heap s.heap [] := va_S.rf
  have hP : va_P D vwCl (wS ct z h dp lt ch ck ++ wH ct h hd nl wi ++ wT ct a n dc pa va dl ge su ++ wH ct g hd2 nl2 wi2) s.heap := hP
  clear hAe hD0
  have hl := lv_entry ([.ref (z 0), .ref (a 0), .ref (g 0), .int (nI d)]) (n := 5) (Nat.le_of_ble_eq_true rfl)
  rw [lg_entry_eq]
  generalize (lg_sl ([.ref (z 0), .ref (a 0), .ref (g 0), .int (nI d)]) ++ List.replicate (5 - (lg_sl ([.ref (z 0), .ref (a 0), .ref (g 0), .int (nI d)])).length) Slot.unset).toArray = ls at hl ⊢
  have hl : lv_has ls 5 [(0, .ref (z 0)), (1, .ref (a 0)), (2, .ref (g 0)), (3, .int (nI d))] := hl
  have hH0 : s.heap.size ≤ s.heap.size := Nat.le_refl _
  refine lv_aload_n hx hb dX1_receive_0 rfl (lv_at hl 0 rfl) ?_
  refine va_get (D := D) (ci := 1) (v := .ref (h 0)) (C := RX1) (T := TX1) (N := 5) hx hb hts (fun _ h => List.mem_cons_of_mem _ (List.mem_append_left _ (List.mem_append_left _ (List.mem_append_right _ h)))) hown hK.1 hP 0 rfl rfl 0 (by decide) (hts (.fieldLink RX1 12 "RevisionStores$Store" "holding" "LRevisionStores$Holding;") (List.mem_of_getElem? (i := 1) rfl)) (fun _ h9 => h9) rfl dX1_receive_1 ?_
  refine lv_aload_n hx hb dX1_receive_4 rfl (lv_at hl 1 rfl) ?_
  refine lv_aload_n hx hb dX1_receive_5 rfl (lv_at hl 2 rfl) ?_
  refine lv_iload_n hx hb dX1_receive_6 rfl (lv_at hl 3 rfl) ?_
  refine r_wVi (As := [.ref (a 0), .ref (g 0), .int (nI d)]) (rest := []) ⟨hx, hb, hml, hown, hts⟩ (cX0_addBranches_ok l D ct h hd nl wi a n dc pa va dl ge su g hd2 nl2 wi2 d (by first | assumption | omega) (by first | assumption | omega) (by first | assumption | omega) (by first | assumption | omega) (by first | assumption | omega) (by first | assumption | omega) s.heap.size) (cwV 3 hts gX1_receive_X0_addBranches rfl rfl rfl (by decide +kernel) ⟨Nat.le_of_ble_eq_true rfl, Nat.le_of_ble_eq_true rfl⟩) hK hP hD hS hA [3, 4, 5, 6, 7, 8, 9, 10, 11, 12, 13, 14, 15, 16, 17] rfl rfl rfl 0 0 rfl rfl rfl hl.1 rfl (Nat.le_of_ble_eq_true rfl) dX1_receive_7 ⟨Nat.le_of_ble_eq_true rfl, Nat.le_of_ble_eq_true rfl⟩ (fun H locs hP hD hS => ?_)
  have hP : va_P D vwCl (wS ct z h dp lt ch ck ++ wH ct h ((abS dc pa hd2 (ends hd2 nl2) nl d hd n).2) nl wi ++ wT ct a n dc pa va dl ge su ++ wH ct g hd2 nl2 wi2) H := hP
  have hD : va_D A (wS ct z h dp lt ch ck ++ wH ct h ((abS dc pa hd2 (ends hd2 nl2) nl d hd n).2) nl wi ++ wT ct a n dc pa va dl ge su ++ wH ct g hd2 nl2 wi2) := hD
  refine lv_istore (lv' := [(4, .int (nI ((abS dc pa hd2 (ends hd2 nl2) nl d hd n).1))), (0, .ref (z 0)), (1, .ref (a 0)), (2, .ref (g 0)), (3, .int (nI d))]) hx hb dX1_receive_10 hl (by decide) rfl (fun ls hl => ?_)
  have e12 := abS_le dc pa hd2 (ends hd2 nl2) nl d hd n
  refine lv_iload hx hb dX1_receive_12 (lv_at hl 0 rfl) ?_
  refine r_if_leN hx hb (x := (abS dc pa hd2 (ends hd2 nl2) nl d hd n).1) (by first | omega | decide) (tgt := 23) dX1_receive_14 (by decide) (fun c14 => ?_) (fun c14 => ?_)
  · refine lv_iload hx hb dX1_receive_23 (lv_at hl 0 rfl) ?_
    have e9 : lt = (if 0 < (abS dc pa hd2 (ends hd2 nl2) nl d hd n).1 then lt + nI 1 else lt) := by simp [c14]
    have hP := (congrArg (fun z9 => va_P D vwCl (wS ct z h dp z9 ch ck ++ wH ct h ((abS dc pa hd2 (ends hd2 nl2) nl d hd n).2) nl wi ++ wT ct a n dc pa va dl ge su ++ wH ct g hd2 nl2 wi2) H) e9).mp hP
    have e9 : ch = (if 0 < (abS dc pa hd2 (ends hd2 nl2) nl d hd n).1 then va_up ch d (lt + nI 1) else ch) := by simp [c14]
    have hP := (congrArg (fun z9 => va_P D vwCl (wS ct z h dp (if 0 < (abS dc pa hd2 (ends hd2 nl2) nl d hd n).1 then lt + nI 1 else lt) z9 ck ++ wH ct h ((abS dc pa hd2 (ends hd2 nl2) nl d hd n).2) nl wi ++ wT ct a n dc pa va dl ge su ++ wH ct g hd2 nl2 wi2) H) e9).mp hP
    have e9 : ((abS dc pa hd2 (ends hd2 nl2) nl d hd n).2) = (if 0 < (abS dc pa hd2 (ends hd2 nl2) nl d hd n).1 then stm ((abS dc pa hd2 (ends hd2 nl2) nl d hd n).2) (flS pa ge ((abS dc pa hd2 (ends hd2 nl2) nl d hd n).2) n n) ge dp n else (abS dc pa hd2 (ends hd2 nl2) nl d hd n).2) := by simp [c14]
    have hP := (congrArg (fun z9 => va_P D vwCl (wS ct z h dp (if 0 < (abS dc pa hd2 (ends hd2 nl2) nl d hd n).1 then lt + nI 1 else lt) (if 0 < (abS dc pa hd2 (ends hd2 nl2) nl d hd n).1 then va_up ch d (lt + nI 1) else ch) ck ++ wH ct h z9 nl wi ++ wT ct a n dc pa va dl ge su ++ wH ct g hd2 nl2 wi2) H) e9).mp hP
    have e9 : nl = (if 0 < (abS dc pa hd2 (ends hd2 nl2) nl d hd n).1 then flS pa ge ((abS dc pa hd2 (ends hd2 nl2) nl d hd n).2) n n else nl) := by simp [c14]
    have hP := (congrArg (fun z9 => va_P D vwCl (wS ct z h dp (if 0 < (abS dc pa hd2 (ends hd2 nl2) nl d hd n).1 then lt + nI 1 else lt) (if 0 < (abS dc pa hd2 (ends hd2 nl2) nl d hd n).1 then va_up ch d (lt + nI 1) else ch) ck ++ wH ct h (if 0 < (abS dc pa hd2 (ends hd2 nl2) nl d hd n).1 then stm ((abS dc pa hd2 (ends hd2 nl2) nl d hd n).2) (flS pa ge ((abS dc pa hd2 (ends hd2 nl2) nl d hd n).2) n n) ge dp n else (abS dc pa hd2 (ends hd2 nl2) nl d hd n).2) z9 wi ++ wT ct a n dc pa va dl ge su ++ wH ct g hd2 nl2 wi2) H) e9).mp hP
    have e9 : wi = (if 0 < (abS dc pa hd2 (ends hd2 nl2) nl d hd n).1 then fwS dc dl ge su (ends ((abS dc pa hd2 (ends hd2 nl2) nl d hd n).2) (flS pa ge ((abS dc pa hd2 (ends hd2 nl2) nl d hd n).2) n n)) n else wi) := by simp [c14]
    have hP := (congrArg (fun z9 => va_P D vwCl (wS ct z h dp (if 0 < (abS dc pa hd2 (ends hd2 nl2) nl d hd n).1 then lt + nI 1 else lt) (if 0 < (abS dc pa hd2 (ends hd2 nl2) nl d hd n).1 then va_up ch d (lt + nI 1) else ch) ck ++ wH ct h (if 0 < (abS dc pa hd2 (ends hd2 nl2) nl d hd n).1 then stm ((abS dc pa hd2 (ends hd2 nl2) nl d hd n).2) (flS pa ge ((abS dc pa hd2 (ends hd2 nl2) nl d hd n).2) n n) ge dp n else (abS dc pa hd2 (ends hd2 nl2) nl d hd n).2) (if 0 < (abS dc pa hd2 (ends hd2 nl2) nl d hd n).1 then flS pa ge ((abS dc pa hd2 (ends hd2 nl2) nl d hd n).2) n n else nl) z9 ++ wT ct a n dc pa va dl ge su ++ wH ct g hd2 nl2 wi2) H) e9).mp hP
    have hP : va_P D vwCl (wS ct z h dp (if 0 < (abS dc pa hd2 (ends hd2 nl2) nl d hd n).1 then lt + nI 1 else lt) (if 0 < (abS dc pa hd2 (ends hd2 nl2) nl d hd n).1 then va_up ch d (lt + nI 1) else ch) ck ++ wH ct h (if 0 < (abS dc pa hd2 (ends hd2 nl2) nl d hd n).1 then stm ((abS dc pa hd2 (ends hd2 nl2) nl d hd n).2) (flS pa ge ((abS dc pa hd2 (ends hd2 nl2) nl d hd n).2) n n) ge dp n else (abS dc pa hd2 (ends hd2 nl2) nl d hd n).2) (if 0 < (abS dc pa hd2 (ends hd2 nl2) nl d hd n).1 then flS pa ge ((abS dc pa hd2 (ends hd2 nl2) nl d hd n).2) n n else nl) (if 0 < (abS dc pa hd2 (ends hd2 nl2) nl d hd n).1 then fwS dc dl ge su (ends ((abS dc pa hd2 (ends hd2 nl2) nl d hd n).2) (flS pa ge ((abS dc pa hd2 (ends hd2 nl2) nl d hd n).2) n n)) n else wi) ++ wT ct a n dc pa va dl ge su ++ wH ct g hd2 nl2 wi2) H := hP
    exact W.iret hx hb hr (fun t ht hW => ⟨⟨_, (), rfl, rfl, by show va_P D vwCl _ t.heap; rw [ht]; exact hP⟩, hS.F ht⟩) hS.2.2 dX1_receive_25
  · refine lv_aload_n hx hb dX1_receive_17 rfl (lv_at hl 1 rfl) ?_
    refine lv_aload_n hx hb dX1_receive_18 rfl (lv_at hl 2 rfl) ?_
    refine lv_iload_n hx hb dX1_receive_19 rfl (lv_at hl 4 rfl) ?_
    refine r_wVv (As := [.ref (a 0), .int (nI d)]) (rest := []) ⟨hx, hb, hml, hown, hts⟩ (cX1_noteChange_ok l D ct z dp lt ch ck h ((abS dc pa hd2 (ends hd2 nl2) nl d hd n).2) nl wi a n dc pa va dl ge su d (by first | assumption | omega) (by first | assumption | omega) (by first | assumption | omega) (by first | assumption | omega) (by first | assumption | omega) H.size) (cwV 2 hts gX1_receive_X1_noteChange rfl rfl rfl (by decide +kernel) ⟨Nat.le_of_ble_eq_true rfl, Nat.le_of_ble_eq_true rfl⟩) hK hP hD hS hA [0, 1, 2, 3, 4, 5, 6, 7, 8, 9, 10, 11, 12, 13] rfl rfl rfl 0 1 rfl rfl rfl hl.1 rfl (Nat.le_of_ble_eq_true rfl) dX1_receive_20 ⟨Nat.le_of_ble_eq_true rfl, Nat.le_of_ble_eq_true rfl⟩ (fun H locs hP hD hS => ?_)
    have hP : va_P D vwCl (wS ct z h dp (lt + nI 1) (va_up ch d (lt + nI 1)) ck ++ wH ct h (stm ((abS dc pa hd2 (ends hd2 nl2) nl d hd n).2) (flS pa ge ((abS dc pa hd2 (ends hd2 nl2) nl d hd n).2) n n) ge dp n) (flS pa ge ((abS dc pa hd2 (ends hd2 nl2) nl d hd n).2) n n) (fwS dc dl ge su (ends ((abS dc pa hd2 (ends hd2 nl2) nl d hd n).2) (flS pa ge ((abS dc pa hd2 (ends hd2 nl2) nl d hd n).2) n n)) n) ++ wT ct a n dc pa va dl ge su ++ wH ct g hd2 nl2 wi2) H := hP
    have hD : va_D A (wS ct z h dp (lt + nI 1) (va_up ch d (lt + nI 1)) ck ++ wH ct h (stm ((abS dc pa hd2 (ends hd2 nl2) nl d hd n).2) (flS pa ge ((abS dc pa hd2 (ends hd2 nl2) nl d hd n).2) n n) ge dp n) (flS pa ge ((abS dc pa hd2 (ends hd2 nl2) nl d hd n).2) n n) (fwS dc dl ge su (ends ((abS dc pa hd2 (ends hd2 nl2) nl d hd n).2) (flS pa ge ((abS dc pa hd2 (ends hd2 nl2) nl d hd n).2) n n)) n) ++ wT ct a n dc pa va dl ge su ++ wH ct g hd2 nl2 wi2) := hD
    refine lv_iload hx hb dX1_receive_23 (lv_at hl 0 rfl) ?_
    have e9 : (lt + nI 1) = (if 0 < (abS dc pa hd2 (ends hd2 nl2) nl d hd n).1 then lt + nI 1 else lt) := by simp [c14]
    have hP := (congrArg (fun z9 => va_P D vwCl (wS ct z h dp z9 (va_up ch d (lt + nI 1)) ck ++ wH ct h (stm ((abS dc pa hd2 (ends hd2 nl2) nl d hd n).2) (flS pa ge ((abS dc pa hd2 (ends hd2 nl2) nl d hd n).2) n n) ge dp n) (flS pa ge ((abS dc pa hd2 (ends hd2 nl2) nl d hd n).2) n n) (fwS dc dl ge su (ends ((abS dc pa hd2 (ends hd2 nl2) nl d hd n).2) (flS pa ge ((abS dc pa hd2 (ends hd2 nl2) nl d hd n).2) n n)) n) ++ wT ct a n dc pa va dl ge su ++ wH ct g hd2 nl2 wi2) H) e9).mp hP
    have e9 : (va_up ch d (lt + nI 1)) = (if 0 < (abS dc pa hd2 (ends hd2 nl2) nl d hd n).1 then va_up ch d (lt + nI 1) else ch) := by simp [c14]
    have hP := (congrArg (fun z9 => va_P D vwCl (wS ct z h dp (if 0 < (abS dc pa hd2 (ends hd2 nl2) nl d hd n).1 then lt + nI 1 else lt) z9 ck ++ wH ct h (stm ((abS dc pa hd2 (ends hd2 nl2) nl d hd n).2) (flS pa ge ((abS dc pa hd2 (ends hd2 nl2) nl d hd n).2) n n) ge dp n) (flS pa ge ((abS dc pa hd2 (ends hd2 nl2) nl d hd n).2) n n) (fwS dc dl ge su (ends ((abS dc pa hd2 (ends hd2 nl2) nl d hd n).2) (flS pa ge ((abS dc pa hd2 (ends hd2 nl2) nl d hd n).2) n n)) n) ++ wT ct a n dc pa va dl ge su ++ wH ct g hd2 nl2 wi2) H) e9).mp hP
    have e9 : (stm ((abS dc pa hd2 (ends hd2 nl2) nl d hd n).2) (flS pa ge ((abS dc pa hd2 (ends hd2 nl2) nl d hd n).2) n n) ge dp n) = (if 0 < (abS dc pa hd2 (ends hd2 nl2) nl d hd n).1 then stm ((abS dc pa hd2 (ends hd2 nl2) nl d hd n).2) (flS pa ge ((abS dc pa hd2 (ends hd2 nl2) nl d hd n).2) n n) ge dp n else (abS dc pa hd2 (ends hd2 nl2) nl d hd n).2) := by simp [c14]
    have hP := (congrArg (fun z9 => va_P D vwCl (wS ct z h dp (if 0 < (abS dc pa hd2 (ends hd2 nl2) nl d hd n).1 then lt + nI 1 else lt) (if 0 < (abS dc pa hd2 (ends hd2 nl2) nl d hd n).1 then va_up ch d (lt + nI 1) else ch) ck ++ wH ct h z9 (flS pa ge ((abS dc pa hd2 (ends hd2 nl2) nl d hd n).2) n n) (fwS dc dl ge su (ends ((abS dc pa hd2 (ends hd2 nl2) nl d hd n).2) (flS pa ge ((abS dc pa hd2 (ends hd2 nl2) nl d hd n).2) n n)) n) ++ wT ct a n dc pa va dl ge su ++ wH ct g hd2 nl2 wi2) H) e9).mp hP
    have e9 : (flS pa ge ((abS dc pa hd2 (ends hd2 nl2) nl d hd n).2) n n) = (if 0 < (abS dc pa hd2 (ends hd2 nl2) nl d hd n).1 then flS pa ge ((abS dc pa hd2 (ends hd2 nl2) nl d hd n).2) n n else nl) := by simp [c14]
    have hP := (congrArg (fun z9 => va_P D vwCl (wS ct z h dp (if 0 < (abS dc pa hd2 (ends hd2 nl2) nl d hd n).1 then lt + nI 1 else lt) (if 0 < (abS dc pa hd2 (ends hd2 nl2) nl d hd n).1 then va_up ch d (lt + nI 1) else ch) ck ++ wH ct h (if 0 < (abS dc pa hd2 (ends hd2 nl2) nl d hd n).1 then stm ((abS dc pa hd2 (ends hd2 nl2) nl d hd n).2) (flS pa ge ((abS dc pa hd2 (ends hd2 nl2) nl d hd n).2) n n) ge dp n else (abS dc pa hd2 (ends hd2 nl2) nl d hd n).2) z9 (fwS dc dl ge su (ends ((abS dc pa hd2 (ends hd2 nl2) nl d hd n).2) (flS pa ge ((abS dc pa hd2 (ends hd2 nl2) nl d hd n).2) n n)) n) ++ wT ct a n dc pa va dl ge su ++ wH ct g hd2 nl2 wi2) H) e9).mp hP
    have e9 : (fwS dc dl ge su (ends ((abS dc pa hd2 (ends hd2 nl2) nl d hd n).2) (flS pa ge ((abS dc pa hd2 (ends hd2 nl2) nl d hd n).2) n n)) n) = (if 0 < (abS dc pa hd2 (ends hd2 nl2) nl d hd n).1 then fwS dc dl ge su (ends ((abS dc pa hd2 (ends hd2 nl2) nl d hd n).2) (flS pa ge ((abS dc pa hd2 (ends hd2 nl2) nl d hd n).2) n n)) n else wi) := by simp [c14]
    have hP := (congrArg (fun z9 => va_P D vwCl (wS ct z h dp (if 0 < (abS dc pa hd2 (ends hd2 nl2) nl d hd n).1 then lt + nI 1 else lt) (if 0 < (abS dc pa hd2 (ends hd2 nl2) nl d hd n).1 then va_up ch d (lt + nI 1) else ch) ck ++ wH ct h (if 0 < (abS dc pa hd2 (ends hd2 nl2) nl d hd n).1 then stm ((abS dc pa hd2 (ends hd2 nl2) nl d hd n).2) (flS pa ge ((abS dc pa hd2 (ends hd2 nl2) nl d hd n).2) n n) ge dp n else (abS dc pa hd2 (ends hd2 nl2) nl d hd n).2) (if 0 < (abS dc pa hd2 (ends hd2 nl2) nl d hd n).1 then flS pa ge ((abS dc pa hd2 (ends hd2 nl2) nl d hd n).2) n n else nl) z9 ++ wT ct a n dc pa va dl ge su ++ wH ct g hd2 nl2 wi2) H) e9).mp hP
    have hP : va_P D vwCl (wS ct z h dp (if 0 < (abS dc pa hd2 (ends hd2 nl2) nl d hd n).1 then lt + nI 1 else lt) (if 0 < (abS dc pa hd2 (ends hd2 nl2) nl d hd n).1 then va_up ch d (lt + nI 1) else ch) ck ++ wH ct h (if 0 < (abS dc pa hd2 (ends hd2 nl2) nl d hd n).1 then stm ((abS dc pa hd2 (ends hd2 nl2) nl d hd n).2) (flS pa ge ((abS dc pa hd2 (ends hd2 nl2) nl d hd n).2) n n) ge dp n else (abS dc pa hd2 (ends hd2 nl2) nl d hd n).2) (if 0 < (abS dc pa hd2 (ends hd2 nl2) nl d hd n).1 then flS pa ge ((abS dc pa hd2 (ends hd2 nl2) nl d hd n).2) n n else nl) (if 0 < (abS dc pa hd2 (ends hd2 nl2) nl d hd n).1 then fwS dc dl ge su (ends ((abS dc pa hd2 (ends hd2 nl2) nl d hd n).2) (flS pa ge ((abS dc pa hd2 (ends hd2 nl2) nl d hd n).2) n n)) n else wi) ++ wT ct a n dc pa va dl ge su ++ wH ct g hd2 nl2 wi2) H := hP
    exact W.iret hx hb hr (fun t ht hW => ⟨⟨_, (), rfl, rfl, by show va_P D vwCl _ t.heap; rw [ht]; exact hP⟩, hS.F ht⟩) hS.2.2 dX1_receive_25
