set_option maxHeartbeats 8000000 in
set_option maxRecDepth 100000 in
theorem cX0_countAll_ok (l : Launch) (D : va_G) (ct : Nat → ClassId) (h : Nat → Nat) (hd : Nat → Bool) (nl : Nat → Nat) (wi : Nat → Option Nat) (a : Nat → Nat) (n : Nat) (dc : Nat → Nat) (pa : Nat → Option Nat) (va : Nat → Int32) (dl : Nat → Bool) (ge : Nat → Nat) (su : Nat → Int32) (hn : n ≤ 150) : Met l yX0_countAll wsX0_countAll ({ frames := 0, cells := 0, slots := 0, locals := 0 } : Room) (roPc D ct [.ref (h 0), .ref (a 0)] (wH ct h hd nl wi ++ wT ct a n dc pa va dl ge su)) (rqI (nI (fct hd n))) 0 0 (fun _ => False) := by
  refine Met.ofW (cc := cX0_countAll) (maxL := 4) (ret := (some .int)) (by decide) rfl ?_
  intro p e s m args below meth c s₁ B hml hv
  obtain ⟨rfl, hP, hK⟩ := hv
  have hx := B.exec
  have hb := B.bytes
  have hr := B.returns
  have hts := atoms_spec (ws := wsX0_countAll) B.pre
  have hown : s.vm.findClass RX0 = some m.cls := findClass_of_methodNamed B.named
  have hlocks := B.notSynchronized
  have hl := lv_entry ([.ref (h 0), .ref (a 0)]) (n := 4) (Nat.le_of_ble_eq_true rfl)
  rw [lg_entry_eq]
  generalize (lg_sl ([.ref (h 0), .ref (a 0)]) ++ List.replicate (4 - (lg_sl ([.ref (h 0), .ref (a 0)])).length) Slot.unset).toArray = ls at hl ⊢
  have hl : lv_has ls 4 [(0, .ref (h 0)), (1, .ref (a 0))] := hl
  refine lv_iconst (v := nI 0) hx hb dX0_countAll_0 (by decide) ?_
  refine lv_istore_n (lv' := [(2, .int (nI 0)), (0, .ref (h 0)), (1, .ref (a 0))]) hx hb dX0_countAll_1 rfl hl (by decide) rfl (fun ls hl => ?_)
  refine lv_iconst (v := nI 0) hx hb dX0_countAll_2 (by decide) ?_
  refine lv_istore_n (lv' := [(3, .int (nI 0)), (2, .int (nI 0)), (0, .ref (h 0)), (1, .ref (a 0))]) hx hb dX0_countAll_3 rfl hl (by decide) rfl (fun ls hl => ?_)
  have key4 : ∀ (d4 : Nat) (k : Nat) (hk : k ≤ n), n - k < d4 → ∀  (ls : Array Slot), lv_has ls 4 [(3, .int (nI k)), (2, .int (nI (fct hd k))), (0, .ref (h 0)), (1, .ref (a 0))] → W p l e ({ frames := 0, cells := 0, slots := 0, locals := 0 } : Room) s m ([.ref (h 0), .ref (a 0)] : List Value).toArray below meth c s.heap [] 0 0 (MQ below (rqI (nI (fct hd n))) ([.ref (h 0), .ref (a 0)] : List Value).toArray s 0 0 (fun _ => False)) (F0 m 4 ls []) := by
    intro d4
    induction d4 with
    | zero => intro k hk h9; exact absurd h9 (Nat.not_lt_zero _)
    | succ d4 ih4 =>
      intro k hk hm4  ls  hl
      refine lv_iload_n hx hb dX0_countAll_4 rfl (lv_at hl 0 rfl) ?_
      refine lv_aload_n hx hb dX0_countAll_5 rfl (lv_at hl 3 rfl) ?_
      refine va_getN (D := D) (ci := 2) (v := .int (nI n)) (C := RX2) (T := TX2) (N := 7) hx hb hts (fun _ h => List.mem_cons_of_mem _ (List.mem_append_left _ (List.mem_append_right _ h))) hown hK.1 hP 4 rfl rfl 6 (by decide) (va_Nw.use rfl (hK.2 _ (List.mem_of_getElem? (i := 16) rfl))) (fun _ h9 => h9) rfl dX0_countAll_6 ?_
      refine r_icmp_geN hx hb (x := k) (y := n) (by first | omega | decide) (by first | omega | decide) (tgt := 30) dX0_countAll_9 (by decide) (fun c9 => ?_) (fun c9 => ?_)
      · refine lv_iload_n hx hb dX0_countAll_30 rfl (lv_at hl 1 rfl) ?_
        refine r_top (y := nI (fct hd n)) (congrArg nI (show (fct hd k) = (fct hd n) from by rw [show k = n by omega])) ?_
        exact W.iret hx hb hr (fun t ht hW => ⟨_, rfl, rfl, ht⟩) (fun _ h => by cases h) dX0_countAll_31
      · refine lv_aload_n hx hb dX0_countAll_12 rfl (lv_at hl 2 rfl) ?_
        refine va_get (D := D) (ci := 0) (v := .ref (h 1)) (C := RX0) (T := TX0) (N := 3) hx hb hts (fun _ h => List.mem_cons_of_mem _ (List.mem_append_right _ h)) hown hK.1 hP 0 rfl rfl 0 (by decide) (hts (.fieldLink RX0 9 "RevisionStores$Holding" "held" "[Z") (List.mem_of_getElem? (i := 1) rfl)) (fun _ h9 => h9) rfl dX0_countAll_13 ?_
        refine lv_iload_n hx hb dX0_countAll_16 rfl (lv_at hl 0 rfl) ?_
        refine r_zald (j := k) (v := bI (hd k)) hx hb hK.1 hP 1 1 rfl rfl (by omega) (by first | decide | omega) rfl dX0_countAll_17 ?_
        refine r_if_eqB (x := hd k) (tgt := 24) hx hb dX0_countAll_18 (by decide) (fun c18 => ?_) (fun c18 => ?_)
        · refine lv_iinc (v := nI (k + 1)) (lv' := [(3, .int (nI (k + 1))), (2, .int (nI (fct hd k))), (0, .ref (h 0)), (1, .ref (a 0))]) hx hb dX0_countAll_24 hl (k := 0) rfl (nI_1 _) (by decide) rfl (fun ls hl => ?_)
          refine lv_goto (tgt := 4) hx hb dX0_countAll_27 (by decide) ?_
          have hl := lv_re (f := fun z9 => [(3, .int (nI (k + 1))), (2, .int z9), (0, .ref (h 0)), (1, .ref (a 0))]) hl (show nI (fct hd k) = nI (fct hd (k + 1)) from congrArg nI (show (fct hd k) = (fct hd (k + 1)) from by simp [fct, c9, c18]))
          exact ih4 (k + 1) (by first | assumption | omega) (by omega)  ls  (lv_sub hl [0, 1, 2, 3] rfl)
        · refine lv_iinc (v := nI (fct hd k + 1)) (lv' := [(2, .int (nI (fct hd k + 1))), (3, .int (nI k)), (0, .ref (h 0)), (1, .ref (a 0))]) hx hb dX0_countAll_21 hl (k := 1) rfl (nI_1 _) (by decide) rfl (fun ls hl => ?_)
          refine lv_iinc (v := nI (k + 1)) (lv' := [(3, .int (nI (k + 1))), (2, .int (nI (fct hd k + 1))), (0, .ref (h 0)), (1, .ref (a 0))]) hx hb dX0_countAll_24 hl (k := 1) rfl (nI_1 _) (by decide) rfl (fun ls hl => ?_)
          refine lv_goto (tgt := 4) hx hb dX0_countAll_27 (by decide) ?_
          have hl := lv_re (f := fun z9 => [(3, .int (nI (k + 1))), (2, .int z9), (0, .ref (h 0)), (1, .ref (a 0))]) hl (show nI (fct hd k + 1) = nI (fct hd (k + 1)) from congrArg nI (show (fct hd k + 1) = (fct hd (k + 1)) from by simp [fct, c9, c18]))
          exact ih4 (k + 1) (by first | assumption | omega) (by omega)  ls  (lv_sub hl [0, 1, 2, 3] rfl)
  exact key4 ((n - 0) + 1) 0 (by first | assumption | omega) (Nat.lt_succ_self _)  ls  (lv_sub hl [0, 1, 2, 3] rfl)
set_option maxHeartbeats 8000000 in
set_option maxRecDepth 100000 in
theorem cX0_countLiveLeaves_ok (l : Launch) (D : va_G) (ct : Nat → ClassId) (h : Nat → Nat) (hd : Nat → Bool) (nl : Nat → Nat) (wi : Nat → Option Nat) (a : Nat → Nat) (n : Nat) (dc : Nat → Nat) (pa : Nat → Option Nat) (va : Nat → Int32) (dl : Nat → Bool) (ge : Nat → Nat) (su : Nat → Int32) (d : Nat) (hn : n ≤ 150) (hTd : ∀ k, dc k < 4) (hNl : ∀ k, nl k ≤ 151) (hd4 : d < 4) : Met l yX0_countLiveLeaves wsX0_countLiveLeaves ({ frames := 2, cells := 0, slots := 0, locals := 42 } : Room) (roPc D ct [.ref (h 0), .ref (a 0), .int (nI d)] (wH ct h hd nl wi ++ wT ct a n dc pa va dl ge su)) (rqI (nI (fct (llC dc dl (ends hd nl) d) n))) 0 0 (fun _ => False) := by
  refine Met.ofW (cc := cX0_countLiveLeaves) (maxL := 5) (ret := (some .int)) (by decide) rfl ?_
  intro p e s m args below meth c s₁ B hml hv
  obtain ⟨rfl, hP, hK⟩ := hv
  have hx := B.exec
  have hb := B.bytes
  have hr := B.returns
  have hts := atoms_spec (ws := wsX0_countLiveLeaves) B.pre
  have hown : s.vm.findClass RX0 = some m.cls := findClass_of_methodNamed B.named
  have hlocks := B.notSynchronized
  have hl := lv_entry ([.ref (h 0), .ref (a 0), .int (nI d)]) (n := 5) (Nat.le_of_ble_eq_true rfl)
  rw [lg_entry_eq]
  generalize (lg_sl ([.ref (h 0), .ref (a 0), .int (nI d)]) ++ List.replicate (5 - (lg_sl ([.ref (h 0), .ref (a 0), .int (nI d)])).length) Slot.unset).toArray = ls at hl ⊢
  have hl : lv_has ls 5 [(0, .ref (h 0)), (1, .ref (a 0)), (2, .int (nI d))] := hl
  refine lv_iconst (v := nI 0) hx hb dX0_countLiveLeaves_0 (by decide) ?_
  refine lv_istore_n (lv' := [(3, .int (nI 0)), (0, .ref (h 0)), (1, .ref (a 0)), (2, .int (nI d))]) hx hb dX0_countLiveLeaves_1 rfl hl (by decide) rfl (fun ls hl => ?_)
  refine lv_iconst (v := nI 0) hx hb dX0_countLiveLeaves_2 (by decide) ?_
  refine lv_istore (lv' := [(4, .int (nI 0)), (3, .int (nI 0)), (0, .ref (h 0)), (1, .ref (a 0)), (2, .int (nI d))]) hx hb dX0_countLiveLeaves_3 hl (by decide) rfl (fun ls hl => ?_)
  have key5 : ∀ (d5 : Nat) (k : Nat) (hk : k ≤ n), n - k < d5 → ∀  (ls : Array Slot), lv_has ls 5 [(4, .int (nI k)), (3, .int (nI (fct (llC dc dl (ends hd nl) d) k))), (0, .ref (h 0)), (1, .ref (a 0)), (2, .int (nI d))] → W p l e ({ frames := 2, cells := 0, slots := 0, locals := 42 } : Room) s m ([.ref (h 0), .ref (a 0), .int (nI d)] : List Value).toArray below meth c s.heap [] 0 0 (MQ below (rqI (nI (fct (llC dc dl (ends hd nl) d) n))) ([.ref (h 0), .ref (a 0), .int (nI d)] : List Value).toArray s 0 0 (fun _ => False)) (F0 m 5 ls []) := by
    intro d5
    induction d5 with
    | zero => intro k hk h9; exact absurd h9 (Nat.not_lt_zero _)
    | succ d5 ih5 =>
      intro k hk hm5  ls  hl
      refine lv_iload hx hb dX0_countLiveLeaves_5 (lv_at hl 0 rfl) ?_
      refine lv_aload_n hx hb dX0_countLiveLeaves_7 rfl (lv_at hl 3 rfl) ?_
      refine va_getN (D := D) (ci := 2) (v := .int (nI n)) (C := RX2) (T := TX2) (N := 7) hx hb hts (fun _ h => List.mem_cons_of_mem _ (List.mem_append_left _ (List.mem_append_right _ h))) hown hK.1 hP 4 rfl rfl 6 (by decide) (va_Nw.use rfl (hK.2 _ (List.mem_of_getElem? (i := 16) rfl))) (fun _ h9 => h9) rfl dX0_countLiveLeaves_8 ?_
      refine r_icmp_geN hx hb (x := k) (y := n) (by first | omega | decide) (by first | omega | decide) (tgt := 53) dX0_countLiveLeaves_11 (by decide) (fun c11 => ?_) (fun c11 => ?_)
      · refine lv_iload_n hx hb dX0_countLiveLeaves_53 rfl (lv_at hl 1 rfl) ?_
        refine r_top (y := nI (fct (llC dc dl (ends hd nl) d) n)) (congrArg nI (show (fct (llC dc dl (ends hd nl) d) k) = (fct (llC dc dl (ends hd nl) d) n) from by rw [show k = n by omega])) ?_
        exact W.iret hx hb hr (fun t ht hW => ⟨_, rfl, rfl, ht⟩) (fun _ h => by cases h) dX0_countLiveLeaves_54
      · refine lv_aload_n hx hb dX0_countLiveLeaves_14 rfl (lv_at hl 3 rfl) ?_
        refine va_getN (D := D) (ci := 2) (v := .ref (a 1)) (C := RX2) (T := TX2) (N := 7) hx hb hts (fun _ h => List.mem_cons_of_mem _ (List.mem_append_left _ (List.mem_append_right _ h))) hown hK.1 hP 4 rfl rfl 0 (by decide) (va_Nw.use rfl (hK.2 _ (List.mem_of_getElem? (i := 19) rfl))) (fun _ h9 => h9) rfl dX0_countLiveLeaves_15 ?_
        refine lv_iload hx hb dX0_countLiveLeaves_18 (lv_at hl 0 rfl) ?_
        refine r_iald (j := k) (v := nI (dc k)) hx hb hK.1 hP 5 0 rfl rfl (by omega) (by first | decide | omega) rfl dX0_countLiveLeaves_20 ?_
        have f20 := hTd k
        refine lv_iload_n hx hb dX0_countLiveLeaves_21 rfl (lv_at hl 4 rfl) ?_
        refine r_icmp_neN hx hb (x := dc k) (y := d) (by first | omega | decide) (by first | omega | decide) (tgt := 47) dX0_countLiveLeaves_22 (by decide) (fun c22 => ?_) (fun c22 => ?_)
        · refine lv_iinc (v := nI (k + 1)) (lv' := [(4, .int (nI (k + 1))), (3, .int (nI (fct (llC dc dl (ends hd nl) d) k))), (0, .ref (h 0)), (1, .ref (a 0)), (2, .int (nI d))]) hx hb dX0_countLiveLeaves_47 hl (k := 0) rfl (nI_1 _) (by decide) rfl (fun ls hl => ?_)
          refine lv_goto (tgt := 5) hx hb dX0_countLiveLeaves_50 (by decide) ?_
          have hl := lv_re (f := fun z9 => [(4, .int (nI (k + 1))), (3, .int z9), (0, .ref (h 0)), (1, .ref (a 0)), (2, .int (nI d))]) hl (show nI (fct (llC dc dl (ends hd nl) d) k) = nI (fct (llC dc dl (ends hd nl) d) (k + 1)) from congrArg nI (show (fct (llC dc dl (ends hd nl) d) k) = (fct (llC dc dl (ends hd nl) d) (k + 1)) from by simp [fct, llC, c11, c22]))
          exact ih5 (k + 1) (by first | assumption | omega) (by omega)  ls  (lv_sub hl [0, 1, 2, 3, 4] rfl)
        · refine lv_aload_n hx hb dX0_countLiveLeaves_25 rfl (lv_at hl 2 rfl) ?_
          refine lv_iload hx hb dX0_countLiveLeaves_26 (lv_at hl 0 rfl) ?_
          refine r_cV (As := [.int (nI k)]) (rest := []) ⟨hx, hb, hml, hown, hts⟩ (cX0_endsAt_ok l D ct h hd nl wi k (by first | assumption | omega) (hNl _)) (cwV 1 hts gX0_countLiveLeaves_X0_endsAt rfl rfl rfl (by decide +kernel) ⟨Nat.le_of_ble_eq_true rfl, Nat.le_of_ble_eq_true rfl⟩) hK (hP.sub (ws' := wH ct h hd nl wi) [0, 1, 2, 3] rfl) 0 0 rfl rfl rfl hl.1 rfl (Nat.le_of_ble_eq_true rfl) dX0_countLiveLeaves_28 ⟨Nat.le_of_ble_eq_true rfl, Nat.le_of_ble_eq_true rfl⟩ ?_
          refine r_if_eqB (x := ends hd nl k) (tgt := 47) hx hb dX0_countLiveLeaves_31 (by decide) (fun c31 => ?_) (fun c31 => ?_)
          · refine lv_iinc (v := nI (k + 1)) (lv' := [(4, .int (nI (k + 1))), (3, .int (nI (fct (llC dc dl (ends hd nl) d) k))), (0, .ref (h 0)), (1, .ref (a 0)), (2, .int (nI d))]) hx hb dX0_countLiveLeaves_47 hl (k := 0) rfl (nI_1 _) (by decide) rfl (fun ls hl => ?_)
            refine lv_goto (tgt := 5) hx hb dX0_countLiveLeaves_50 (by decide) ?_
            have hl := lv_re (f := fun z9 => [(4, .int (nI (k + 1))), (3, .int z9), (0, .ref (h 0)), (1, .ref (a 0)), (2, .int (nI d))]) hl (show nI (fct (llC dc dl (ends hd nl) d) k) = nI (fct (llC dc dl (ends hd nl) d) (k + 1)) from congrArg nI (show (fct (llC dc dl (ends hd nl) d) k) = (fct (llC dc dl (ends hd nl) d) (k + 1)) from by simp [fct, llC, c11, c22, c31]))
            exact ih5 (k + 1) (by first | assumption | omega) (by omega)  ls  (lv_sub hl [0, 1, 2, 3, 4] rfl)
          · refine lv_aload_n hx hb dX0_countLiveLeaves_34 rfl (lv_at hl 3 rfl) ?_
            refine va_getN (D := D) (ci := 2) (v := .ref (a 4)) (C := RX2) (T := TX2) (N := 7) hx hb hts (fun _ h => List.mem_cons_of_mem _ (List.mem_append_left _ (List.mem_append_right _ h))) hown hK.1 hP 4 rfl rfl 3 (by decide) (va_Nw.use rfl (hK.2 _ (List.mem_of_getElem? (i := 20) rfl))) (fun _ h9 => h9) rfl dX0_countLiveLeaves_35 ?_
            refine lv_iload hx hb dX0_countLiveLeaves_38 (lv_at hl 0 rfl) ?_
            refine r_zald (j := k) (v := bI (dl k)) hx hb hK.1 hP 8 1 rfl rfl (by omega) (by first | decide | omega) rfl dX0_countLiveLeaves_40 ?_
            refine r_if_neB (x := dl k) (tgt := 47) hx hb dX0_countLiveLeaves_41 (by decide) (fun c41 => ?_) (fun c41 => ?_)
            · refine lv_iinc (v := nI (k + 1)) (lv' := [(4, .int (nI (k + 1))), (3, .int (nI (fct (llC dc dl (ends hd nl) d) k))), (0, .ref (h 0)), (1, .ref (a 0)), (2, .int (nI d))]) hx hb dX0_countLiveLeaves_47 hl (k := 0) rfl (nI_1 _) (by decide) rfl (fun ls hl => ?_)
              refine lv_goto (tgt := 5) hx hb dX0_countLiveLeaves_50 (by decide) ?_
              have hl := lv_re (f := fun z9 => [(4, .int (nI (k + 1))), (3, .int z9), (0, .ref (h 0)), (1, .ref (a 0)), (2, .int (nI d))]) hl (show nI (fct (llC dc dl (ends hd nl) d) k) = nI (fct (llC dc dl (ends hd nl) d) (k + 1)) from congrArg nI (show (fct (llC dc dl (ends hd nl) d) k) = (fct (llC dc dl (ends hd nl) d) (k + 1)) from by simp [fct, llC, c11, c22, c31, c41]))
              exact ih5 (k + 1) (by first | assumption | omega) (by omega)  ls  (lv_sub hl [0, 1, 2, 3, 4] rfl)
            · refine lv_iinc (v := nI (fct (llC dc dl (ends hd nl) d) k + 1)) (lv' := [(3, .int (nI (fct (llC dc dl (ends hd nl) d) k + 1))), (4, .int (nI k)), (0, .ref (h 0)), (1, .ref (a 0)), (2, .int (nI d))]) hx hb dX0_countLiveLeaves_44 hl (k := 1) rfl (nI_1 _) (by decide) rfl (fun ls hl => ?_)
              refine lv_iinc (v := nI (k + 1)) (lv' := [(4, .int (nI (k + 1))), (3, .int (nI (fct (llC dc dl (ends hd nl) d) k + 1))), (0, .ref (h 0)), (1, .ref (a 0)), (2, .int (nI d))]) hx hb dX0_countLiveLeaves_47 hl (k := 1) rfl (nI_1 _) (by decide) rfl (fun ls hl => ?_)
              refine lv_goto (tgt := 5) hx hb dX0_countLiveLeaves_50 (by decide) ?_
              have hl := lv_re (f := fun z9 => [(4, .int (nI (k + 1))), (3, .int z9), (0, .ref (h 0)), (1, .ref (a 0)), (2, .int (nI d))]) hl (show nI (fct (llC dc dl (ends hd nl) d) k + 1) = nI (fct (llC dc dl (ends hd nl) d) (k + 1)) from congrArg nI (show (fct (llC dc dl (ends hd nl) d) k + 1) = (fct (llC dc dl (ends hd nl) d) (k + 1)) from by simp [fct, llC, c11, c22, c31, c41]))
              exact ih5 (k + 1) (by first | assumption | omega) (by omega)  ls  (lv_sub hl [0, 1, 2, 3, 4] rfl)
  exact key5 ((n - 0) + 1) 0 (by first | assumption | omega) (Nat.lt_succ_self _)  ls  (lv_sub hl [0, 1, 2, 3, 4] rfl)
set_option maxHeartbeats 8000000 in
set_option maxRecDepth 100000 in
theorem cX0_shownValue_ok (l : Launch) (D : va_G) (ct : Nat → ClassId) (h : Nat → Nat) (hd : Nat → Bool) (nl : Nat → Nat) (wi : Nat → Option Nat) (a : Nat → Nat) (n : Nat) (dc : Nat → Nat) (pa : Nat → Option Nat) (va : Nat → Int32) (dl : Nat → Bool) (ge : Nat → Nat) (su : Nat → Int32) (d : Nat) (hn : n ≤ 150) (hWi : ∀ d j, wi d = some j → j < n) (hd4 : d < 4) : Met l yX0_shownValue wsX0_shownValue ({ frames := 0, cells := 0, slots := 0, locals := 0 } : Room) (roPc D ct [.ref (h 0), .ref (a 0), .int (nI d)] (wH ct h hd nl wi ++ wT ct a n dc pa va dl ge su)) (rqI (shv dl va wi d)) 0 0 (fun _ => False) := by
  refine Met.ofW (cc := cX0_shownValue) (maxL := 4) (ret := (some .int)) (by decide) rfl ?_
  intro p e s m args below meth c s₁ B hml hv
  obtain ⟨rfl, hP, hK⟩ := hv
  have hx := B.exec
  have hb := B.bytes
  have hr := B.returns
  have hts := atoms_spec (ws := wsX0_shownValue) B.pre
  have hown : s.vm.findClass RX0 = some m.cls := findClass_of_methodNamed B.named
  have hlocks := B.notSynchronized
  have hl := lv_entry ([.ref (h 0), .ref (a 0), .int (nI d)]) (n := 4) (Nat.le_of_ble_eq_true rfl)
  rw [lg_entry_eq]
  generalize (lg_sl ([.ref (h 0), .ref (a 0), .int (nI d)]) ++ List.replicate (4 - (lg_sl ([.ref (h 0), .ref (a 0), .int (nI d)])).length) Slot.unset).toArray = ls at hl ⊢
  have hl : lv_has ls 4 [(0, .ref (h 0)), (1, .ref (a 0)), (2, .int (nI d))] := hl
  refine lv_aload_n hx hb dX0_shownValue_0 rfl (lv_at hl 0 rfl) ?_
  refine va_get (D := D) (ci := 0) (v := .ref (h 3)) (C := RX0) (T := TX0) (N := 3) hx hb hts (fun _ h => List.mem_cons_of_mem _ (List.mem_append_left _ (List.mem_append_right _ h))) hown hK.1 hP 0 rfl rfl 2 (by decide) (hts (.fieldLink RX0 19 "RevisionStores$Holding" "winners" "[I") (List.mem_of_getElem? (i := 1) rfl)) (fun _ h9 => h9) rfl dX0_shownValue_1 ?_
  refine lv_iload_n hx hb dX0_shownValue_4 rfl (lv_at hl 2 rfl) ?_
  refine r_iald (j := d) (v := eP (wi d)) hx hb hK.1 hP 3 0 rfl rfl (by omega) (by first | decide | omega) rfl dX0_shownValue_5 ?_
  refine lv_istore_n (lv' := [(3, .int (eP (wi d))), (0, .ref (h 0)), (1, .ref (a 0)), (2, .int (nI d))]) hx hb dX0_shownValue_6 rfl hl (by decide) rfl (fun ls hl => ?_)
  refine lv_iload_n hx hb dX0_shownValue_7 rfl (lv_at hl 0 rfl) ?_
  refine lv_iconst (v := -1) hx hb dX0_shownValue_8 (by decide) ?_
  refine r_icmp_eqP hx hb (x := wi d) (by intro j9 h9; have := hWi _ _ h9; omega) (tgt := 21) dX0_shownValue_9 (by decide) (fun c9 => ?_) (fun j9 c9 => ?_)
  · have hl := lv_re (f := fun z9 => [(3, .int z9), (0, .ref (h 0)), (1, .ref (a 0)), (2, .int (nI d))]) hl (show eP (wi d) = eP none from congrArg eP c9)
    refine lv_iconst (v := -1) hx hb dX0_shownValue_21 (by decide) ?_
    refine lv_goto (tgt := 31) hx hb dX0_shownValue_22 (by decide) ?_
    refine r_top (y := shv dl va wi d) (by simp [shv, eP, c9]) ?_
    exact W.iret hx hb hr (fun t ht hW => ⟨_, rfl, rfl, ht⟩) (fun _ h => by cases h) dX0_shownValue_31
  · have hl := lv_re (f := fun z9 => [(3, .int z9), (0, .ref (h 0)), (1, .ref (a 0)), (2, .int (nI d))]) hl (show eP (wi d) = nI j9 from congrArg eP c9)
    have e12 := hWi _ _ c9
    refine lv_aload_n hx hb dX0_shownValue_12 rfl (lv_at hl 2 rfl) ?_
    refine va_getN (D := D) (ci := 2) (v := .ref (a 4)) (C := RX2) (T := TX2) (N := 7) hx hb hts (fun _ h => List.mem_cons_of_mem _ (List.mem_append_right _ h)) hown hK.1 hP 4 rfl rfl 3 (by decide) (va_Nw.use rfl (hK.2 _ (List.mem_of_getElem? (i := 20) rfl))) (fun _ h9 => h9) rfl dX0_shownValue_13 ?_
    refine lv_iload_n hx hb dX0_shownValue_16 rfl (lv_at hl 0 rfl) ?_
    refine r_zald (j := j9) (v := bI (dl j9)) hx hb hK.1 hP 8 1 rfl rfl (by omega) (by first | decide | omega) rfl dX0_shownValue_17 ?_
    refine r_if_eqB (x := dl j9) (tgt := 25) hx hb dX0_shownValue_18 (by decide) (fun c18 => ?_) (fun c18 => ?_)
    · refine lv_aload_n hx hb dX0_shownValue_25 rfl (lv_at hl 2 rfl) ?_
      refine va_getN (D := D) (ci := 2) (v := .ref (a 3)) (C := RX2) (T := TX2) (N := 7) hx hb hts (fun _ h => List.mem_cons_of_mem _ (List.mem_append_right _ h)) hown hK.1 hP 4 rfl rfl 2 (by decide) (va_Nw.use rfl (hK.2 _ (List.mem_of_getElem? (i := 21) rfl))) (fun _ h9 => h9) rfl dX0_shownValue_26 ?_
      refine lv_iload_n hx hb dX0_shownValue_29 rfl (lv_at hl 0 rfl) ?_
      refine r_iald (j := j9) (v := va j9) hx hb hK.1 hP 7 0 rfl rfl (by omega) (by first | decide | omega) rfl dX0_shownValue_30 ?_
      refine r_top (y := shv dl va wi d) (by simp [shv, eP, c9, c18]) ?_
      exact W.iret hx hb hr (fun t ht hW => ⟨_, rfl, rfl, ht⟩) (fun _ h => by cases h) dX0_shownValue_31
    · refine lv_iconst (v := -1) hx hb dX0_shownValue_21 (by decide) ?_
      refine lv_goto (tgt := 31) hx hb dX0_shownValue_22 (by decide) ?_
      refine r_top (y := shv dl va wi d) (by simp [shv, eP, c9, c18]) ?_
      exact W.iret hx hb hr (fun t ht hW => ⟨_, rfl, rfl, ht⟩) (fun _ h => by cases h) dX0_shownValue_31
set_option maxHeartbeats 8000000 in
set_option maxRecDepth 100000 in
theorem cX0_countShownBefore_ok (l : Launch) (D : va_G) (ct : Nat → ClassId) (h : Nat → Nat) (hd : Nat → Bool) (nl : Nat → Nat) (wi : Nat → Option Nat) (a : Nat → Nat) (n : Nat) (dc : Nat → Nat) (pa : Nat → Option Nat) (va : Nat → Int32) (dl : Nat → Bool) (ge : Nat → Nat) (su : Nat → Int32) (v : Int32) (d : Nat) (hn : n ≤ 150) (hWi : ∀ d j, wi d = some j → j < n) (hd4 : d < 4) : Met l yX0_countShownBefore wsX0_countShownBefore ({ frames := 1, cells := 0, slots := 0, locals := 23 } : Room) (roPc D ct [.ref (h 0), .ref (a 0), .int v, .int (nI d)] (wH ct h hd nl wi ++ wT ct a n dc pa va dl ge su)) (rqI (nI (fct (bfC (shv dl va wi) v d) 4))) 0 0 (fun _ => False) := by
  refine Met.ofW (cc := cX0_countShownBefore) (maxL := 7) (ret := (some .int)) (by decide) rfl ?_
  intro p e s m args below meth c s₁ B hml hv
  obtain ⟨rfl, hP, hK⟩ := hv
  have hx := B.exec
  have hb := B.bytes
  have hr := B.returns
  have hts := atoms_spec (ws := wsX0_countShownBefore) B.pre
  have hown : s.vm.findClass RX0 = some m.cls := findClass_of_methodNamed B.named
  have hlocks := B.notSynchronized
  have hl := lv_entry ([.ref (h 0), .ref (a 0), .int v, .int (nI d)]) (n := 7) (Nat.le_of_ble_eq_true rfl)
  rw [lg_entry_eq]
  generalize (lg_sl ([.ref (h 0), .ref (a 0), .int v, .int (nI d)]) ++ List.replicate (7 - (lg_sl ([.ref (h 0), .ref (a 0), .int v, .int (nI d)])).length) Slot.unset).toArray = ls at hl ⊢
  have hl : lv_has ls 7 [(0, .ref (h 0)), (1, .ref (a 0)), (2, .int v), (3, .int (nI d))] := hl
  refine lv_iconst (v := nI 0) hx hb dX0_countShownBefore_0 (by decide) ?_
  refine lv_istore (lv' := [(4, .int (nI 0)), (0, .ref (h 0)), (1, .ref (a 0)), (2, .int v), (3, .int (nI d))]) hx hb dX0_countShownBefore_1 hl (by decide) rfl (fun ls hl => ?_)
  refine lv_iconst (v := nI 0) hx hb dX0_countShownBefore_3 (by decide) ?_
  refine lv_istore (lv' := [(5, .int (nI 0)), (4, .int (nI 0)), (0, .ref (h 0)), (1, .ref (a 0)), (2, .int v), (3, .int (nI d))]) hx hb dX0_countShownBefore_4 hl (by decide) rfl (fun ls hl => ?_)
  have key6 : ∀ (d6 : Nat) (k : Nat) (hk : k ≤ 4), 4 - k < d6 → ∀  (ls : Array Slot), lv_has ls 7 [(5, .int (nI k)), (4, .int (nI (fct (bfC (shv dl va wi) v d) k))), (0, .ref (h 0)), (1, .ref (a 0)), (2, .int v), (3, .int (nI d))] → W p l e ({ frames := 1, cells := 0, slots := 0, locals := 23 } : Room) s m ([.ref (h 0), .ref (a 0), .int v, .int (nI d)] : List Value).toArray below meth c s.heap [] 0 0 (MQ below (rqI (nI (fct (bfC (shv dl va wi) v d) 4))) ([.ref (h 0), .ref (a 0), .int v, .int (nI d)] : List Value).toArray s 0 0 (fun _ => False)) (F0 m 6 ls []) := by
    intro d6
    induction d6 with
    | zero => intro k hk h9; exact absurd h9 (Nat.not_lt_zero _)
    | succ d6 ih6 =>
      intro k hk hm6  ls  hl
      refine lv_iload hx hb dX0_countShownBefore_6 (lv_at hl 0 rfl) ?_
      refine lv_iconst (v := nI 4) hx hb dX0_countShownBefore_8 (by decide) ?_
      refine r_icmp_geN hx hb (x := k) (y := 4) (by first | omega | decide) (by first | omega | decide) (tgt := 54) dX0_countShownBefore_9 (by decide) (fun c9 => ?_) (fun c9 => ?_)
      · refine lv_iload hx hb dX0_countShownBefore_54 (lv_at hl 1 rfl) ?_
        refine r_top (y := nI (fct (bfC (shv dl va wi) v d) 4)) (congrArg nI (show (fct (bfC (shv dl va wi) v d) k) = (fct (bfC (shv dl va wi) v d) 4) from by rw [show k = 4 by omega])) ?_
        exact W.iret hx hb hr (fun t ht hW => ⟨_, rfl, rfl, ht⟩) (fun _ h => by cases h) dX0_countShownBefore_56
      · refine lv_aload_n hx hb dX0_countShownBefore_12 rfl (lv_at hl 2 rfl) ?_
        refine lv_aload_n hx hb dX0_countShownBefore_13 rfl (lv_at hl 3 rfl) ?_
        refine lv_iload hx hb dX0_countShownBefore_14 (lv_at hl 0 rfl) ?_
        refine r_cV (As := [.ref (a 0), .int (nI k)]) (rest := []) ⟨hx, hb, hml, hown, hts⟩ (cX0_shownValue_ok l D ct h hd nl wi a n dc pa va dl ge su k (by first | assumption | omega) (by first | assumption | omega) (by first | assumption | omega)) (cwV 2 hts gX0_countShownBefore_X0_shownValue rfl rfl rfl (by decide +kernel) ⟨Nat.le_of_ble_eq_true rfl, Nat.le_of_ble_eq_true rfl⟩) hK (hP.sub (ws' := wH ct h hd nl wi ++ wT ct a n dc pa va dl ge su) [0, 1, 2, 3, 4, 5, 6, 7, 8, 9, 10] rfl) 0 0 rfl rfl rfl hl.1 rfl (Nat.le_of_ble_eq_true rfl) dX0_countShownBefore_16 ⟨Nat.le_of_ble_eq_true rfl, Nat.le_of_ble_eq_true rfl⟩ ?_
        refine lv_istore (lv' := [(6, .int (shv dl va wi k)), (5, .int (nI k)), (4, .int (nI (fct (bfC (shv dl va wi) v d) k))), (0, .ref (h 0)), (1, .ref (a 0)), (2, .int v), (3, .int (nI d))]) hx hb dX0_countShownBefore_19 hl (by decide) rfl (fun ls hl => ?_)
        refine lv_iload hx hb dX0_countShownBefore_21 (lv_at hl 0 rfl) ?_
        refine lv_iconst (v := -1) hx hb dX0_countShownBefore_23 (by decide) ?_
        refine lv_icmp_eq (x := shv dl va wi k) (y := -1) (tgt := 48) hx hb dX0_countShownBefore_24 (by decide) (fun c24 => ?_) (fun c24 => ?_)
        · refine lv_iinc (v := nI (k + 1)) (lv' := [(5, .int (nI (k + 1))), (6, .int (shv dl va wi k)), (4, .int (nI (fct (bfC (shv dl va wi) v d) k))), (0, .ref (h 0)), (1, .ref (a 0)), (2, .int v), (3, .int (nI d))]) hx hb dX0_countShownBefore_48 hl (k := 1) rfl (nI_1 _) (by decide) rfl (fun ls hl => ?_)
          refine lv_goto (tgt := 6) hx hb dX0_countShownBefore_51 (by decide) ?_
          have hl := lv_re (f := fun z9 => [(5, .int (nI (k + 1))), (6, .int (shv dl va wi k)), (4, .int z9), (0, .ref (h 0)), (1, .ref (a 0)), (2, .int v), (3, .int (nI d))]) hl (show nI (fct (bfC (shv dl va wi) v d) k) = nI (fct (bfC (shv dl va wi) v d) (k + 1)) from congrArg nI (show (fct (bfC (shv dl va wi) v d) k) = (fct (bfC (shv dl va wi) v d) (k + 1)) from by first | (simp [fct, bfC, c9, c24]; done) | (rw [c36] at c24; simp [fct, bfC, c9, c24])))
          exact ih6 (k + 1) (by first | assumption | omega) (by omega)  ls  (lv_sub hl [0, 2, 3, 4, 5, 6] rfl)
        · refine lv_iload hx hb dX0_countShownBefore_27 (lv_at hl 0 rfl) ?_
          refine lv_iload_n hx hb dX0_countShownBefore_29 rfl (lv_at hl 5 rfl) ?_
          refine lv_icmp_lt (x := shv dl va wi k) (y := v) (tgt := 45) hx hb dX0_countShownBefore_30 (by decide) (fun c30 => ?_) (fun c30 => ?_)
          · refine lv_iinc (v := nI (fct (bfC (shv dl va wi) v d) k + 1)) (lv' := [(4, .int (nI (fct (bfC (shv dl va wi) v d) k + 1))), (6, .int (shv dl va wi k)), (5, .int (nI k)), (0, .ref (h 0)), (1, .ref (a 0)), (2, .int v), (3, .int (nI d))]) hx hb dX0_countShownBefore_45 hl (k := 2) rfl (nI_1 _) (by decide) rfl (fun ls hl => ?_)
            refine lv_iinc (v := nI (k + 1)) (lv' := [(5, .int (nI (k + 1))), (4, .int (nI (fct (bfC (shv dl va wi) v d) k + 1))), (6, .int (shv dl va wi k)), (0, .ref (h 0)), (1, .ref (a 0)), (2, .int v), (3, .int (nI d))]) hx hb dX0_countShownBefore_48 hl (k := 2) rfl (nI_1 _) (by decide) rfl (fun ls hl => ?_)
            refine lv_goto (tgt := 6) hx hb dX0_countShownBefore_51 (by decide) ?_
            have hl := lv_re (f := fun z9 => [(5, .int (nI (k + 1))), (4, .int z9), (6, .int (shv dl va wi k)), (0, .ref (h 0)), (1, .ref (a 0)), (2, .int v), (3, .int (nI d))]) hl (show nI (fct (bfC (shv dl va wi) v d) k + 1) = nI (fct (bfC (shv dl va wi) v d) (k + 1)) from congrArg nI (show (fct (bfC (shv dl va wi) v d) k + 1) = (fct (bfC (shv dl va wi) v d) (k + 1)) from by first | (simp [fct, bfC, c9, c24, c30]; done) | (rw [c36] at c24; simp [fct, bfC, c9, c24, c30])))
            exact ih6 (k + 1) (by first | assumption | omega) (by omega)  ls  (lv_sub hl [0, 1, 3, 4, 5, 6] rfl)
          · refine lv_iload hx hb dX0_countShownBefore_33 (lv_at hl 0 rfl) ?_
            refine lv_iload_n hx hb dX0_countShownBefore_35 rfl (lv_at hl 5 rfl) ?_
            refine lv_icmp_ne (x := shv dl va wi k) (y := v) (tgt := 48) hx hb dX0_countShownBefore_36 (by decide) (fun c36 => ?_) (fun c36 => ?_)
            · refine lv_iinc (v := nI (k + 1)) (lv' := [(5, .int (nI (k + 1))), (6, .int (shv dl va wi k)), (4, .int (nI (fct (bfC (shv dl va wi) v d) k))), (0, .ref (h 0)), (1, .ref (a 0)), (2, .int v), (3, .int (nI d))]) hx hb dX0_countShownBefore_48 hl (k := 1) rfl (nI_1 _) (by decide) rfl (fun ls hl => ?_)
              refine lv_goto (tgt := 6) hx hb dX0_countShownBefore_51 (by decide) ?_
              have hl := lv_re (f := fun z9 => [(5, .int (nI (k + 1))), (6, .int (shv dl va wi k)), (4, .int z9), (0, .ref (h 0)), (1, .ref (a 0)), (2, .int v), (3, .int (nI d))]) hl (show nI (fct (bfC (shv dl va wi) v d) k) = nI (fct (bfC (shv dl va wi) v d) (k + 1)) from congrArg nI (show (fct (bfC (shv dl va wi) v d) k) = (fct (bfC (shv dl va wi) v d) (k + 1)) from by first | (simp [fct, bfC, c9, c24, c30, c36]; done) | (rw [c36] at c24; simp [fct, bfC, c9, c24, c30, c36])))
              exact ih6 (k + 1) (by first | assumption | omega) (by omega)  ls  (lv_sub hl [0, 2, 3, 4, 5, 6] rfl)
            · refine lv_iload hx hb dX0_countShownBefore_39 (lv_at hl 1 rfl) ?_
              refine lv_iload_n hx hb dX0_countShownBefore_41 rfl (lv_at hl 6 rfl) ?_
              refine r_icmp_geN hx hb (x := k) (y := d) (by first | omega | decide) (by first | omega | decide) (tgt := 48) dX0_countShownBefore_42 (by decide) (fun c42 => ?_) (fun c42 => ?_)
              · refine lv_iinc (v := nI (k + 1)) (lv' := [(5, .int (nI (k + 1))), (6, .int (shv dl va wi k)), (4, .int (nI (fct (bfC (shv dl va wi) v d) k))), (0, .ref (h 0)), (1, .ref (a 0)), (2, .int v), (3, .int (nI d))]) hx hb dX0_countShownBefore_48 hl (k := 1) rfl (nI_1 _) (by decide) rfl (fun ls hl => ?_)
                refine lv_goto (tgt := 6) hx hb dX0_countShownBefore_51 (by decide) ?_
                have hl := lv_re (f := fun z9 => [(5, .int (nI (k + 1))), (6, .int (shv dl va wi k)), (4, .int z9), (0, .ref (h 0)), (1, .ref (a 0)), (2, .int v), (3, .int (nI d))]) hl (show nI (fct (bfC (shv dl va wi) v d) k) = nI (fct (bfC (shv dl va wi) v d) (k + 1)) from congrArg nI (show (fct (bfC (shv dl va wi) v d) k) = (fct (bfC (shv dl va wi) v d) (k + 1)) from by first | (simp [fct, bfC, c9, c24, c30, c36, c42]; done) | (rw [c36] at c24; simp [fct, bfC, c9, c24, c30, c36, c42])))
                exact ih6 (k + 1) (by first | assumption | omega) (by omega)  ls  (lv_sub hl [0, 2, 3, 4, 5, 6] rfl)
              · refine lv_iinc (v := nI (fct (bfC (shv dl va wi) v d) k + 1)) (lv' := [(4, .int (nI (fct (bfC (shv dl va wi) v d) k + 1))), (6, .int (shv dl va wi k)), (5, .int (nI k)), (0, .ref (h 0)), (1, .ref (a 0)), (2, .int v), (3, .int (nI d))]) hx hb dX0_countShownBefore_45 hl (k := 2) rfl (nI_1 _) (by decide) rfl (fun ls hl => ?_)
                refine lv_iinc (v := nI (k + 1)) (lv' := [(5, .int (nI (k + 1))), (4, .int (nI (fct (bfC (shv dl va wi) v d) k + 1))), (6, .int (shv dl va wi k)), (0, .ref (h 0)), (1, .ref (a 0)), (2, .int v), (3, .int (nI d))]) hx hb dX0_countShownBefore_48 hl (k := 2) rfl (nI_1 _) (by decide) rfl (fun ls hl => ?_)
                refine lv_goto (tgt := 6) hx hb dX0_countShownBefore_51 (by decide) ?_
                have hl := lv_re (f := fun z9 => [(5, .int (nI (k + 1))), (4, .int z9), (6, .int (shv dl va wi k)), (0, .ref (h 0)), (1, .ref (a 0)), (2, .int v), (3, .int (nI d))]) hl (show nI (fct (bfC (shv dl va wi) v d) k + 1) = nI (fct (bfC (shv dl va wi) v d) (k + 1)) from congrArg nI (show (fct (bfC (shv dl va wi) v d) k + 1) = (fct (bfC (shv dl va wi) v d) (k + 1)) from by first | (simp [fct, bfC, c9, c24, c30, c36, c42]; done) | (rw [c36] at c24; simp [fct, bfC, c9, c24, c30, c36, c42])))
                exact ih6 (k + 1) (by first | assumption | omega) (by omega)  ls  (lv_sub hl [0, 1, 3, 4, 5, 6] rfl)
  exact key6 ((4 - 0) + 1) 0 (by first | assumption | omega) (Nat.lt_succ_self _)  ls  (lv_sub hl [0, 1, 2, 3, 4, 5] rfl)
