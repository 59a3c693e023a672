set_option maxHeartbeats 8000000 in
set_option maxRecDepth 100000 in
theorem cX3_pairOf_ok (l : Launch) (D : va_G) (ct : Nat → ClassId) (i : Nat) (j : Nat)  : Met l yX3_pairOf wsX3_pairOf ({ frames := 0, cells := 0, slots := 0, locals := 0 } : Room) (roPc D ct [.int (nI i), .int (nI j)] (([] : va_W))) (rqI (nI ((i * 3) + j))) 0 0 (fun _ => False) := by
  refine Met.ofW (cc := cX3_pairOf) (maxL := 2) (ret := (some .int)) (by decide) rfl ?_
  intro p e s m args below meth c s₁ B hml hv
  obtain ⟨rfl, hP, hK⟩ := hv
  have hx := B.exec
  have hb := B.bytes
  have hr := B.returns
  have hts := atoms_spec (ws := wsX3_pairOf) B.pre
  have hown : s.vm.findClass RX3 = some m.cls := findClass_of_methodNamed B.named
  have hlocks := B.notSynchronized
  have hl := lv_entry ([.int (nI i), .int (nI j)]) (n := 2) (Nat.le_of_ble_eq_true rfl)
  rw [lg_entry_eq]
  generalize (lg_sl ([.int (nI i), .int (nI j)]) ++ List.replicate (2 - (lg_sl ([.int (nI i), .int (nI j)])).length) Slot.unset).toArray = ls at hl ⊢
  have hl : lv_has ls 2 [(0, .int (nI i)), (1, .int (nI j))] := hl
  refine lv_iload_n hx hb dX3_pairOf_0 rfl (lv_at hl 0 rfl) ?_
  refine lv_iconst (v := nI 3) hx hb dX3_pairOf_1 (by decide) ?_
  refine r_imulN hx hb dX3_pairOf_2 ?_
  refine lv_iload_n hx hb dX3_pairOf_3 rfl (lv_at hl 1 rfl) ?_
  refine r_iaddN hx hb dX3_pairOf_4 ?_
  exact W.iret hx hb hr (fun t ht hW => ⟨_, rfl, rfl, ht⟩) (fun _ h => by cases h) dX3_pairOf_5
set_option maxHeartbeats 8000000 in
set_option maxRecDepth 100000 in
theorem cX3_commonCheckpoint_ok (l : Launch) (D : va_G) (ct : Nat → ClassId) (r : Nat → Nat) (u : Nat → Nat) (sa : Nat → Nat → Nat) (a : Nat → Nat) (n : Nat) (dc : Nat → Nat) (pa : Nat → Option Nat) (va : Nat → Int32) (dl : Nat → Bool) (ge : Nat → Nat) (su : Nat → Int32) (dp : Int32) (lt : Int32) (ch : Nat → Int32) (ck : Nat → Int32) (h : Nat → Nat) (hd : Nat → Bool) (nl : Nat → Nat) (wi : Nat → Option Nat) (dp2 : Int32) (lt2 : Int32) (ch2 : Nat → Int32) (ck2 : Nat → Int32) (g : Nat → Nat) (hd2 : Nat → Bool) (nl2 : Nat → Nat) (wi2 : Nat → Option Nat) (i : Nat) (j : Nat) (hi : i < 3) (hj : j < 3) : Met l yX3_commonCheckpoint wsX3_commonCheckpoint ({ frames := 1, cells := 0, slots := 0, locals := 21 } : Room) (roPc D ct [.ref (r 0), .int (nI i), .int (nI j)] (fl [wR ct r a u sa, wT ct a n dc pa va dl ge su, wS ct (sa i) g dp2 lt2 ch2 ck2, wH ct g hd2 nl2 wi2, wS ct (sa j) h dp lt ch ck, wH ct h hd nl wi])) (rqI (mnI (ck2 ((i * 3) + j)) (ck ((i * 3) + j)))) 0 0 (fun _ => False) := by
  refine Met.ofW (cc := cX3_commonCheckpoint) (maxL := 4) (ret := (some .int)) (by decide) rfl ?_
  intro p e s m args below meth c s₁ B hml hv
  obtain ⟨rfl, hP, hK⟩ := hv
  have hx := B.exec
  have hb := B.bytes
  have hr := B.returns
  have hts := atoms_spec (ws := wsX3_commonCheckpoint) B.pre
  have hown : s.vm.findClass RX3 = some m.cls := findClass_of_methodNamed B.named
  have hlocks := B.notSynchronized
  have hl := lv_entry ([.ref (r 0), .int (nI i), .int (nI j)]) (n := 4) (Nat.le_of_ble_eq_true rfl)
  rw [lg_entry_eq]
  generalize (lg_sl ([.ref (r 0), .int (nI i), .int (nI j)]) ++ List.replicate (4 - (lg_sl ([.ref (r 0), .int (nI i), .int (nI j)])).length) Slot.unset).toArray = ls at hl ⊢
  have hl : lv_has ls 4 [(0, .ref (r 0)), (1, .int (nI i)), (2, .int (nI j))] := hl
  refine lv_iload_n hx hb dX3_commonCheckpoint_0 rfl (lv_at hl 1 rfl) ?_
  refine lv_iload_n hx hb dX3_commonCheckpoint_1 rfl (lv_at hl 2 rfl) ?_
  refine r_cS (As := [.int (nI i), .int (nI j)]) (rest := []) ⟨hx, hb, hml, hown, hts⟩ (cX3_pairOf_ok l D ct i j ) (va_cwS 2 hts gX3_commonCheckpoint_X3_pairOf rfl rfl rfl (by decide +kernel) ⟨Nat.le_of_ble_eq_true rfl, Nat.le_of_ble_eq_true rfl⟩) hK va_Pnil rfl hl.1 rfl (Nat.le_of_ble_eq_true rfl) dX3_commonCheckpoint_2 ⟨Nat.le_of_ble_eq_true rfl, Nat.le_of_ble_eq_true rfl⟩ ?_
  refine lv_istore_n (lv' := [(3, .int (nI ((i * 3) + j))), (0, .ref (r 0)), (1, .int (nI i)), (2, .int (nI j))]) hx hb dX3_commonCheckpoint_5 rfl hl (by decide) rfl (fun ls hl => ?_)
  refine lv_aload_n hx hb dX3_commonCheckpoint_6 rfl (lv_at hl 1 rfl) ?_
  refine va_get (D := D) (ci := 3) (v := .ref (r 1)) (C := RX3) (T := TX3) (N := 3) hx hb hts (fun _ h => List.mem_cons_of_mem _ (List.mem_append_left _ (List.mem_append_right _ h))) hown hK.1 hP 0 rfl rfl 1 (by decide) (hts (.fieldLink RX3 18 "RevisionStores" "stores" "[LRevisionStores$Store;") (List.mem_of_getElem? (i := 1) rfl)) (fun _ h9 => h9) rfl dX3_commonCheckpoint_7 ?_
  refine lv_iload_n hx hb dX3_commonCheckpoint_10 rfl (lv_at hl 2 rfl) ?_
  refine r_aald (j := i) (v := sa i 0) hx hb hK.1 hP 1 2 rfl rfl (by omega) (by decide) rfl dX3_commonCheckpoint_11 ?_
  refine va_getN (D := D) (ci := 1) (v := .ref ((sa i) 2)) (C := RX1) (T := TX1) (N := 5) hx hb hts (fun _ h => List.mem_cons_of_mem _ (List.mem_append_right _ h)) hown hK.1 hP 9 rfl rfl 4 (by decide) (va_Nw.use rfl (hK.2 _ (List.mem_of_getElem? (i := 7) rfl))) (fun _ h9 => h9) rfl dX3_commonCheckpoint_12 ?_
  refine lv_iload_n hx hb dX3_commonCheckpoint_15 rfl (lv_at hl 0 rfl) ?_
  refine r_iald (j := (i * 3) + j) (v := ck2 ((i * 3) + j)) hx hb hK.1 hP 11 0 rfl rfl (by omega) (by first | decide | omega) rfl dX3_commonCheckpoint_16 ?_
  refine lv_aload_n hx hb dX3_commonCheckpoint_17 rfl (lv_at hl 1 rfl) ?_
  refine va_get (D := D) (ci := 3) (v := .ref (r 1)) (C := RX3) (T := TX3) (N := 3) hx hb hts (fun _ h => List.mem_cons_of_mem _ (List.mem_append_left _ (List.mem_append_right _ h))) hown hK.1 hP 0 rfl rfl 1 (by decide) (hts (.fieldLink RX3 18 "RevisionStores" "stores" "[LRevisionStores$Store;") (List.mem_of_getElem? (i := 1) rfl)) (fun _ h9 => h9) rfl dX3_commonCheckpoint_18 ?_
  refine lv_iload_n hx hb dX3_commonCheckpoint_21 rfl (lv_at hl 3 rfl) ?_
  refine r_aald (j := j) (v := sa j 0) hx hb hK.1 hP 1 2 rfl rfl (by omega) (by decide) rfl dX3_commonCheckpoint_22 ?_
  refine va_getN (D := D) (ci := 1) (v := .ref ((sa j) 2)) (C := RX1) (T := TX1) (N := 5) hx hb hts (fun _ h => List.mem_cons_of_mem _ (List.mem_append_right _ h)) hown hK.1 hP 16 rfl rfl 4 (by decide) (va_Nw.use rfl (hK.2 _ (List.mem_of_getElem? (i := 7) rfl))) (fun _ h9 => h9) rfl dX3_commonCheckpoint_23 ?_
  refine lv_iload_n hx hb dX3_commonCheckpoint_26 rfl (lv_at hl 0 rfl) ?_
  refine r_iald (j := (i * 3) + j) (v := ck ((i * 3) + j)) hx hb hK.1 hP 18 0 rfl rfl (by omega) (by first | decide | omega) rfl dX3_commonCheckpoint_27 ?_
  refine va_mmin hx hb (by rw [hml]; exact hl.1.symm) hown (hts (.methodLink RX3 210 Lib.Math.min.name) (List.mem_of_getElem? (i := 2) rfl)) (hts (.static Lib.Math.min.name) (List.mem_of_getElem? (i := 3) rfl)) (hts (.initialized "java/lang/Math") (List.mem_of_getElem? (i := 4) rfl)) (hts (.code Lib.Math.min.name Lib.Math.min.code 2 (some .int)) (List.mem_of_getElem? (i := 5) rfl)) (Nat.le_of_ble_eq_true rfl) (Nat.le_of_ble_eq_true rfl) (Nat.le_of_ble_eq_true rfl) (Nat.le_of_ble_eq_true rfl) (x := ck2 ((i * 3) + j)) (y := ck ((i * 3) + j)) dX3_commonCheckpoint_28 ?_
  refine r_top (y := mnI (ck2 ((i * 3) + j)) (ck ((i * 3) + j))) (rfl) ?_
  exact W.iret hx hb hr (fun t ht hW => ⟨_, rfl, rfl, ht⟩) (fun _ h => by cases h) dX3_commonCheckpoint_31
set_option maxHeartbeats 8000000 in
set_option maxRecDepth 100000 in
theorem cX3_pending_ok (l : Launch) (D : va_G) (ct : Nat → ClassId) (r : Nat → Nat) (u : Nat → Nat) (sa : Nat → Nat → Nat) (a : Nat → Nat) (n : Nat) (dc : Nat → Nat) (pa : Nat → Option Nat) (va : Nat → Int32) (dl : Nat → Bool) (ge : Nat → Nat) (su : Nat → Int32) (dp : Int32) (lt : Int32) (ch : Nat → Int32) (ck : Nat → Int32) (h : Nat → Nat) (hd : Nat → Bool) (nl : Nat → Nat) (wi : Nat → Option Nat) (dp2 : Int32) (lt2 : Int32) (ch2 : Nat → Int32) (ck2 : Nat → Int32) (g : Nat → Nat) (hd2 : Nat → Bool) (nl2 : Nat → Nat) (wi2 : Nat → Option Nat) (i : Nat) (j : Nat) (hi : i < 3) (hj : j < 3) (hij : i ≠ j) : Met l yX3_pending wsX3_pending ({ frames := 2, cells := 0, slots := 0, locals := 44 } : Room) (roPc D ct [.ref (r 0), .int (nI i), .int (nI j)] (fl [wR ct r a u sa, wT ct a n dc pa va dl ge su, wS ct (sa i) g dp2 lt2 ch2 ck2, wH ct g hd2 nl2 wi2, wS ct (sa j) h dp lt ch ck, wH ct h hd nl wi])) (rqI (nI (fct (ccC ch2 (mnI (ck2 ((i * 3) + j)) (ck ((i * 3) + j)))) 4))) 0 0 (fun _ => False) := by
  refine Met.ofW (cc := cX3_pending) (maxL := 4) (ret := (some .int)) (by decide) rfl ?_
  intro p e s m args below meth c s₁ B hml hv
  obtain ⟨rfl, hP, hK⟩ := hv
  have hx := B.exec
  have hb := B.bytes
  have hr := B.returns
  have hts := atoms_spec (ws := wsX3_pending) B.pre
  have hown : s.vm.findClass RX3 = some m.cls := findClass_of_methodNamed B.named
  have hlocks := B.notSynchronized
  have hl := lv_entry ([.ref (r 0), .int (nI i), .int (nI j)]) (n := 4) (Nat.le_of_ble_eq_true rfl)
  rw [lg_entry_eq]
  generalize (lg_sl ([.ref (r 0), .int (nI i), .int (nI j)]) ++ List.replicate (4 - (lg_sl ([.ref (r 0), .int (nI i), .int (nI j)])).length) Slot.unset).toArray = ls at hl ⊢
  have hl : lv_has ls 4 [(0, .ref (r 0)), (1, .int (nI i)), (2, .int (nI j))] := hl
  refine lv_aload_n hx hb dX3_pending_0 rfl (lv_at hl 0 rfl) ?_
  refine lv_iload_n hx hb dX3_pending_1 rfl (lv_at hl 1 rfl) ?_
  refine r_gRr (As := [.int (nI i)]) (rest := []) (Cs := [wR ct r a u sa]) ⟨hx, hb, hml, hown, hts⟩ (cX3_storeAt_ok l D ct r u sa a i (by first | assumption | omega)) (fl1 _)  (cwV 1 hts gX3_pending_X3_storeAt rfl rfl rfl (by decide +kernel) ⟨Nat.le_of_ble_eq_true rfl, Nat.le_of_ble_eq_true rfl⟩) hK hP [0] rfl 0 3 rfl rfl rfl hl.1 rfl (Nat.le_of_ble_eq_true rfl) dX3_pending_2 ⟨Nat.le_of_ble_eq_true rfl, Nat.le_of_ble_eq_true rfl⟩ ?_
  refine lv_astore_n (lv' := [(3, .ref ((sa i) 0)), (0, .ref (r 0)), (1, .int (nI i)), (2, .int (nI j))]) hx hb dX3_pending_5 rfl hl (by decide) rfl (fun ls hl => ?_)
  refine lv_aload_n hx hb dX3_pending_6 rfl (lv_at hl 1 rfl) ?_
  refine lv_iload_n hx hb dX3_pending_7 rfl (lv_at hl 3 rfl) ?_
  refine r_gRr (As := [.int (nI j)]) (rest := []) (Cs := [wR ct r a u sa]) ⟨hx, hb, hml, hown, hts⟩ (cX3_storeAt_ok l D ct r u sa a j (by first | assumption | omega)) (fl1 _)  (cwV 1 hts gX3_pending_X3_storeAt rfl rfl rfl (by decide +kernel) ⟨Nat.le_of_ble_eq_true rfl, Nat.le_of_ble_eq_true rfl⟩) hK hP [0] rfl 0 3 rfl rfl rfl hl.1 rfl (Nat.le_of_ble_eq_true rfl) dX3_pending_8 ⟨Nat.le_of_ble_eq_true rfl, Nat.le_of_ble_eq_true rfl⟩ ?_
  refine lv_pop hx hb dX3_pending_11 rfl ?_
  refine lv_aload_n hx hb dX3_pending_12 rfl (lv_at hl 1 rfl) ?_
  refine lv_iload_n hx hb dX3_pending_13 rfl (lv_at hl 2 rfl) ?_
  refine lv_iload_n hx hb dX3_pending_14 rfl (lv_at hl 3 rfl) ?_
  refine r_gRv (As := [.int (nI i), .int (nI j)]) (rest := []) (Cs := [wR ct r a u sa]) ⟨hx, hb, hml, hown, hts⟩ (cX3_checkDifferent_ok l D ct r u sa a i j (by first | assumption | omega) (by first | assumption | omega) (by first | assumption | omega)) (fl1 _)  (cwV 2 hts gX3_pending_X3_checkDifferent rfl rfl rfl (by decide +kernel) ⟨Nat.le_of_ble_eq_true rfl, Nat.le_of_ble_eq_true rfl⟩) hK hP [0] rfl 0 3 rfl rfl rfl hl.1 rfl (Nat.le_of_ble_eq_true rfl) dX3_pending_15 ⟨Nat.le_of_ble_eq_true rfl, Nat.le_of_ble_eq_true rfl⟩ ?_
  refine lv_aload_n hx hb dX3_pending_18 rfl (lv_at hl 0 rfl) ?_
  refine lv_aload_n hx hb dX3_pending_19 rfl (lv_at hl 1 rfl) ?_
  refine lv_iload_n hx hb dX3_pending_20 rfl (lv_at hl 2 rfl) ?_
  refine lv_iload_n hx hb dX3_pending_21 rfl (lv_at hl 3 rfl) ?_
  refine r_gR (As := [.int (nI i), .int (nI j)]) (rest := [.ref ((sa i) 0)]) (Cs := [wR ct r a u sa, wT ct a n dc pa va dl ge su, wS ct (sa i) g dp2 lt2 ch2 ck2, wH ct g hd2 nl2 wi2, wS ct (sa j) h dp lt ch ck, wH ct h hd nl wi]) ⟨hx, hb, hml, hown, hts⟩ (cX3_commonCheckpoint_ok l D ct r u sa a n dc pa va dl ge su dp lt ch ck h hd nl wi dp2 lt2 ch2 ck2 g hd2 nl2 wi2 i j (by first | assumption | omega) (by first | assumption | omega)) rfl  (cwV 2 hts gX3_pending_X3_commonCheckpoint rfl rfl rfl (by decide +kernel) ⟨Nat.le_of_ble_eq_true rfl, Nat.le_of_ble_eq_true rfl⟩) hK hP [0, 1, 2, 3, 4, 5] rfl 0 3 rfl rfl rfl hl.1 rfl (Nat.le_of_ble_eq_true rfl) dX3_pending_22 ⟨Nat.le_of_ble_eq_true rfl, Nat.le_of_ble_eq_true rfl⟩ ?_
  refine r_gR (As := [.int (mnI (ck2 ((i * 3) + j)) (ck ((i * 3) + j)))]) (rest := []) (Cs := [wS ct (sa i) g dp2 lt2 ch2 ck2]) ⟨hx, hb, hml, hown, hts⟩ (cX1_countChanged_ok l D ct (sa i) dp2 lt2 ch2 ck2 g (mnI (ck2 ((i * 3) + j)) (ck ((i * 3) + j))) ) (fl1 _)  (cwV 1 hts gX3_pending_X1_countChanged rfl rfl rfl (by decide +kernel) ⟨Nat.le_of_ble_eq_true rfl, Nat.le_of_ble_eq_true rfl⟩) hK hP [2] rfl 0 1 rfl rfl rfl hl.1 rfl (Nat.le_of_ble_eq_true rfl) dX3_pending_25 ⟨Nat.le_of_ble_eq_true rfl, Nat.le_of_ble_eq_true rfl⟩ ?_
  exact W.iret hx hb hr (fun t ht hW => ⟨_, rfl, rfl, ht⟩) (fun _ h => by cases h) dX3_pending_28
set_option maxHeartbeats 8000000 in
set_option maxRecDepth 100000 in
theorem cX3_checkpoint_ok (l : Launch) (D : va_G) (ct : Nat → ClassId) (r : Nat → Nat) (u : Nat → Nat) (sa : Nat → Nat → Nat) (a : Nat → Nat) (n : Nat) (dc : Nat → Nat) (pa : Nat → Option Nat) (va : Nat → Int32) (dl : Nat → Bool) (ge : Nat → Nat) (su : Nat → Int32) (dp : Int32) (lt : Int32) (ch : Nat → Int32) (ck : Nat → Int32) (h : Nat → Nat) (hd : Nat → Bool) (nl : Nat → Nat) (wi : Nat → Option Nat) (dp2 : Int32) (lt2 : Int32) (ch2 : Nat → Int32) (ck2 : Nat → Int32) (g : Nat → Nat) (hd2 : Nat → Bool) (nl2 : Nat → Nat) (wi2 : Nat → Option Nat) (i : Nat) (j : Nat) (hi : i < 3) (hj : j < 3) (hij : i ≠ j) : Met l yX3_checkpoint wsX3_checkpoint ({ frames := 2, cells := 0, slots := 0, locals := 44 } : Room) (roPc D ct [.ref (r 0), .int (nI i), .int (nI j)] (fl [wR ct r a u sa, wT ct a n dc pa va dl ge su, wS ct (sa i) g dp2 lt2 ch2 ck2, wH ct g hd2 nl2 wi2, wS ct (sa j) h dp lt ch ck, wH ct h hd nl wi])) (rqI (mnI (ck2 ((i * 3) + j)) (ck ((i * 3) + j)))) 0 0 (fun _ => False) := by
  refine Met.ofW (cc := cX3_checkpoint) (maxL := 3) (ret := (some .int)) (by decide) rfl ?_
  intro p e s m args below meth c s₁ B hml hv
  obtain ⟨rfl, hP, hK⟩ := hv
  have hx := B.exec
  have hb := B.bytes
  have hr := B.returns
  have hts := atoms_spec (ws := wsX3_checkpoint) B.pre
  have hown : s.vm.findClass RX3 = some m.cls := findClass_of_methodNamed B.named
  have hlocks := B.notSynchronized
  have hl := lv_entry ([.ref (r 0), .int (nI i), .int (nI j)]) (n := 3) (Nat.le_of_ble_eq_true rfl)
  rw [lg_entry_eq]
  generalize (lg_sl ([.ref (r 0), .int (nI i), .int (nI j)]) ++ List.replicate (3 - (lg_sl ([.ref (r 0), .int (nI i), .int (nI j)])).length) Slot.unset).toArray = ls at hl ⊢
  have hl : lv_has ls 3 [(0, .ref (r 0)), (1, .int (nI i)), (2, .int (nI j))] := hl
  refine lv_aload_n hx hb dX3_checkpoint_0 rfl (lv_at hl 0 rfl) ?_
  refine lv_iload_n hx hb dX3_checkpoint_1 rfl (lv_at hl 1 rfl) ?_
  refine r_gRr (As := [.int (nI i)]) (rest := []) (Cs := [wR ct r a u sa]) ⟨hx, hb, hml, hown, hts⟩ (cX3_storeAt_ok l D ct r u sa a i (by first | assumption | omega)) (fl1 _)  (cwV 1 hts gX3_checkpoint_X3_storeAt rfl rfl rfl (by decide +kernel) ⟨Nat.le_of_ble_eq_true rfl, Nat.le_of_ble_eq_true rfl⟩) hK hP [0] rfl 0 3 rfl rfl rfl hl.1 rfl (Nat.le_of_ble_eq_true rfl) dX3_checkpoint_2 ⟨Nat.le_of_ble_eq_true rfl, Nat.le_of_ble_eq_true rfl⟩ ?_
  refine lv_pop hx hb dX3_checkpoint_5 rfl ?_
  refine lv_aload_n hx hb dX3_checkpoint_6 rfl (lv_at hl 0 rfl) ?_
  refine lv_iload_n hx hb dX3_checkpoint_7 rfl (lv_at hl 2 rfl) ?_
  refine r_gRr (As := [.int (nI j)]) (rest := []) (Cs := [wR ct r a u sa]) ⟨hx, hb, hml, hown, hts⟩ (cX3_storeAt_ok l D ct r u sa a j (by first | assumption | omega)) (fl1 _)  (cwV 1 hts gX3_checkpoint_X3_storeAt rfl rfl rfl (by decide +kernel) ⟨Nat.le_of_ble_eq_true rfl, Nat.le_of_ble_eq_true rfl⟩) hK hP [0] rfl 0 3 rfl rfl rfl hl.1 rfl (Nat.le_of_ble_eq_true rfl) dX3_checkpoint_8 ⟨Nat.le_of_ble_eq_true rfl, Nat.le_of_ble_eq_true rfl⟩ ?_
  refine lv_pop hx hb dX3_checkpoint_11 rfl ?_
  refine lv_aload_n hx hb dX3_checkpoint_12 rfl (lv_at hl 0 rfl) ?_
  refine lv_iload_n hx hb dX3_checkpoint_13 rfl (lv_at hl 1 rfl) ?_
  refine lv_iload_n hx hb dX3_checkpoint_14 rfl (lv_at hl 2 rfl) ?_
  refine r_gRv (As := [.int (nI i), .int (nI j)]) (rest := []) (Cs := [wR ct r a u sa]) ⟨hx, hb, hml, hown, hts⟩ (cX3_checkDifferent_ok l D ct r u sa a i j (by first | assumption | omega) (by first | assumption | omega) (by first | assumption | omega)) (fl1 _)  (cwV 2 hts gX3_checkpoint_X3_checkDifferent rfl rfl rfl (by decide +kernel) ⟨Nat.le_of_ble_eq_true rfl, Nat.le_of_ble_eq_true rfl⟩) hK hP [0] rfl 0 3 rfl rfl rfl hl.1 rfl (Nat.le_of_ble_eq_true rfl) dX3_checkpoint_15 ⟨Nat.le_of_ble_eq_true rfl, Nat.le_of_ble_eq_true rfl⟩ ?_
  refine lv_aload_n hx hb dX3_checkpoint_18 rfl (lv_at hl 0 rfl) ?_
  refine lv_iload_n hx hb dX3_checkpoint_19 rfl (lv_at hl 1 rfl) ?_
  refine lv_iload_n hx hb dX3_checkpoint_20 rfl (lv_at hl 2 rfl) ?_
  refine r_gR (As := [.int (nI i), .int (nI j)]) (rest := []) (Cs := [wR ct r a u sa, wT ct a n dc pa va dl ge su, wS ct (sa i) g dp2 lt2 ch2 ck2, wH ct g hd2 nl2 wi2, wS ct (sa j) h dp lt ch ck, wH ct h hd nl wi]) ⟨hx, hb, hml, hown, hts⟩ (cX3_commonCheckpoint_ok l D ct r u sa a n dc pa va dl ge su dp lt ch ck h hd nl wi dp2 lt2 ch2 ck2 g hd2 nl2 wi2 i j (by first | assumption | omega) (by first | assumption | omega)) rfl  (cwV 2 hts gX3_checkpoint_X3_commonCheckpoint rfl rfl rfl (by decide +kernel) ⟨Nat.le_of_ble_eq_true rfl, Nat.le_of_ble_eq_true rfl⟩) hK hP [0, 1, 2, 3, 4, 5] rfl 0 3 rfl rfl rfl hl.1 rfl (Nat.le_of_ble_eq_true rfl) dX3_checkpoint_21 ⟨Nat.le_of_ble_eq_true rfl, Nat.le_of_ble_eq_true rfl⟩ ?_
  exact W.iret hx hb hr (fun t ht hW => ⟨_, rfl, rfl, ht⟩) (fun _ h => by cases h) dX3_checkpoint_24
set_option maxHeartbeats 40000000 in
set_option maxRecDepth 100000 in
theorem cX3_replicate_ok (l : Launch) (D : va_G) (ct : Nat → ClassId) (r : Nat → Nat) (u : Nat → Nat) (sa : Nat → Nat → Nat) (a : Nat → Nat) (n : Nat) (dc : Nat → Nat) (pa : Nat → Option Nat) (va : Nat → Int32) (dl : Nat → Bool) (ge : Nat → Nat) (su : Nat → Int32) (dp : Int32) (lt : Int32) (ch : Nat → Int32) (ck : Nat → Int32) (h : Nat → Nat) (hd : Nat → Bool) (nl : Nat → Nat) (wi : Nat → Option Nat) (dp2 : Int32) (lt2 : Int32) (ch2 : Nat → Int32) (ck2 : Nat → Int32) (g : Nat → Nat) (hd2 : Nat → Bool) (nl2 : Nat → Nat) (wi2 : Nat → Option Nat) (i : Nat) (j : Nat) (lim : Nat) (y : CS) (hn : n ≤ 150) (hTd : ∀ k, dc k < 4) (hTg : ∀ k, ge k ≤ 150) (hTp : ∀ k j, k < n → pa k = some j → j < k) (hNl : ∀ k, nl k ≤ 151) (hNl2 : ∀ k, nl2 k ≤ 151) (hi : i < 3) (hj : j < 3) (hij : i ≠ j) (hl1 : 1 ≤ lim) (hl4 : lim ≤ 4) (hy : y = csS dc pa dl ge su n dp hd2 nl2 ch2 (0, mnI (ck2 ((i * 3) + j)) (ck ((i * 3) + j)), lt, ch, hd, nl, wi) lim) (sz : Nat) : Met l yX3_replicate wsX3_replicate ({ frames := 6, cells := 0, slots := 0, locals := 133 } : Room) (wrPc D ct [.ref (r 0), .int (nI i), .int (nI j), .int (nI lim)] (fl [wR ct r a u sa, wT ct a n dc pa va dl ge su, wS ct (sa i) g dp2 lt2 ch2 ck2, wH ct g hd2 nl2 wi2, wS ct (sa j) h dp lt ch ck, wH ct h hd nl wi]) sz) (wqI D (nI y.1) (fl [wR ct r a u sa, wT ct a n dc pa va dl ge su, wS ct (sa i) g dp2 lt2 ch2 (va_up ck2 ((i * 3) + j) (csa ch2 lt2 y)), wH ct g hd2 nl2 wi2, wS ct (sa j) h dp y.2.2.1 y.2.2.2.1 (va_up ck ((i * 3) + j) (csa ch2 lt2 y)), wH ct h y.2.2.2.2.1 y.2.2.2.2.2.1 y.2.2.2.2.2.2]) (va_A (fl [wR ct r a u sa, wT ct a n dc pa va dl ge su, wS ct (sa i) g dp2 lt2 ch2 ck2, wH ct g hd2 nl2 wi2, wS ct (sa j) h dp lt ch ck, wH ct h hd nl wi]) sz)) 0 0 (va_A (fl [wR ct r a u sa, wT ct a n dc pa va dl ge su, wS ct (sa i) g dp2 lt2 ch2 ck2, wH ct g hd2 nl2 wi2, wS ct (sa j) h dp lt ch ck, wH ct h hd nl wi]) sz) := by
  refine Met.ofW (cc := cX3_replicate) (maxL := 10) (ret := (some .int)) (by decide) rfl ?_
  intro p e s m args below meth c s₁ B hml hv
  obtain ⟨rfl, hsz, hP, hK, hD0⟩ := hv
  have hx := B.exec
  have hb := B.bytes
  have hr := B.returns
  have hts := atoms_spec (ws := wsX3_replicate) B.pre
  have hown : s.vm.findClass RX3 = some m.cls := findClass_of_methodNamed B.named
  have hlocks := B.notSynchronized
  subst hsz
  have hD := hD0.self (sz := s.heap.size)
  generalize hAe : va_A (fl [wR ct r a u sa, wT ct a n dc pa va dl ge su, wS ct (sa i) g dp2 lt2 ch2 ck2, wH ct g hd2 nl2 wi2, wS ct (sa j) h dp lt ch ck, wH ct h hd nl wi]) s.heap.size = A at hD ⊢
  have hA : ∀ q : Nat, s.heap.size ≤ q → A q := fun q h => by rw [← hAe]; exact Or.inr h
  have hS : va_S A s.heap s.heap [] := va_S.rf
  have hP : va_P D vwCl (fl [wR ct r a u sa, wT ct a n dc pa va dl ge su, wS ct (sa i) g dp2 lt2 ch2 ck2, wH ct g hd2 nl2 wi2, wS ct (sa j) h dp lt ch ck, wH ct h hd nl wi]) s.heap := hP
  clear hAe hD0
  have hl := lv_entry ([.ref (r 0), .int (nI i), .int (nI j), .int (nI lim)]) (n := 10) (Nat.le_of_ble_eq_true rfl)
  rw [lg_entry_eq]
  generalize (lg_sl ([.ref (r 0), .int (nI i), .int (nI j), .int (nI lim)]) ++ List.replicate (10 - (lg_sl ([.ref (r 0), .int (nI i), .int (nI j), .int (nI lim)])).length) Slot.unset).toArray = ls at hl ⊢
  have hl : lv_has ls 10 [(0, .ref (r 0)), (1, .int (nI i)), (2, .int (nI j)), (3, .int (nI lim))] := hl
  have hH0 : s.heap.size ≤ s.heap.size := Nat.le_refl _
  refine lv_aload_n hx hb dX3_replicate_0 rfl (lv_at hl 0 rfl) ?_
  refine lv_iload_n hx hb dX3_replicate_1 rfl (lv_at hl 1 rfl) ?_
  refine r_gRr (As := [.int (nI i)]) (rest := []) (Cs := [wR ct r a u sa]) ⟨hx, hb, hml, hown, hts⟩ (cX3_storeAt_ok l D ct r u sa a i (by first | assumption | omega)) (fl1 _)  (cwV 1 hts gX3_replicate_X3_storeAt rfl rfl rfl (by decide +kernel) ⟨Nat.le_of_ble_eq_true rfl, Nat.le_of_ble_eq_true rfl⟩) hK hP [0] rfl 0 3 rfl rfl rfl hl.1 rfl (Nat.le_of_ble_eq_true rfl) dX3_replicate_2 ⟨Nat.le_of_ble_eq_true rfl, Nat.le_of_ble_eq_true rfl⟩ ?_
  refine lv_astore (lv' := [(4, .ref ((sa i) 0)), (0, .ref (r 0)), (1, .int (nI i)), (2, .int (nI j)), (3, .int (nI lim))]) hx hb dX3_replicate_5 hl (by decide) rfl (fun ls hl => ?_)
  refine lv_aload_n hx hb dX3_replicate_7 rfl (lv_at hl 1 rfl) ?_
  refine lv_iload_n hx hb dX3_replicate_8 rfl (lv_at hl 3 rfl) ?_
  refine r_gRr (As := [.int (nI j)]) (rest := []) (Cs := [wR ct r a u sa]) ⟨hx, hb, hml, hown, hts⟩ (cX3_storeAt_ok l D ct r u sa a j (by first | assumption | omega)) (fl1 _)  (cwV 1 hts gX3_replicate_X3_storeAt rfl rfl rfl (by decide +kernel) ⟨Nat.le_of_ble_eq_true rfl, Nat.le_of_ble_eq_true rfl⟩) hK hP [0] rfl 0 3 rfl rfl rfl hl.1 rfl (Nat.le_of_ble_eq_true rfl) dX3_replicate_9 ⟨Nat.le_of_ble_eq_true rfl, Nat.le_of_ble_eq_true rfl⟩ ?_
  refine lv_astore (lv' := [(5, .ref ((sa j) 0)), (4, .ref ((sa i) 0)), (0, .ref (r 0)), (1, .int (nI i)), (2, .int (nI j)), (3, .int (nI lim))]) hx hb dX3_replicate_12 hl (by decide) rfl (fun ls hl => ?_)
  refine lv_iload_n hx hb dX3_replicate_14 rfl (lv_at hl 5 rfl) ?_
  refine lv_iconst (v := nI 1) hx hb dX3_replicate_15 (by decide) ?_
  refine r_icmp_ltN hx hb (x := lim) (y := 1) (by first | omega | decide) (by first | omega | decide) (tgt := 24) dX3_replicate_16 (by decide) (fun c16 => ?_) (fun c16 => ?_)
  · omega
  · refine lv_iload_n hx hb dX3_replicate_19 rfl (lv_at hl 5 rfl) ?_
    refine lv_iconst (v := nI 4) hx hb dX3_replicate_20 (by decide) ?_
    refine r_icmp_leN hx hb (x := lim) (y := 4) (by first | omega | decide) (by first | omega | decide) (tgt := 34) dX3_replicate_21 (by decide) (fun c21 => ?_) (fun c21 => ?_)
    · refine lv_aload_n hx hb dX3_replicate_34 rfl (lv_at hl 2 rfl) ?_
      refine lv_iload_n hx hb dX3_replicate_35 rfl (lv_at hl 3 rfl) ?_
      refine lv_iload_n hx hb dX3_replicate_36 rfl (lv_at hl 4 rfl) ?_
      refine r_gRv (As := [.int (nI i), .int (nI j)]) (rest := []) (Cs := [wR ct r a u sa]) ⟨hx, hb, hml, hown, hts⟩ (cX3_checkDifferent_ok l D ct r u sa a i j (by first | assumption | omega) (by first | assumption | omega) (by first | assumption | omega)) (fl1 _)  (cwV 2 hts gX3_replicate_X3_checkDifferent rfl rfl rfl (by decide +kernel) ⟨Nat.le_of_ble_eq_true rfl, Nat.le_of_ble_eq_true rfl⟩) hK hP [0] rfl 0 3 rfl rfl rfl hl.1 rfl (Nat.le_of_ble_eq_true rfl) dX3_replicate_37 ⟨Nat.le_of_ble_eq_true rfl, Nat.le_of_ble_eq_true rfl⟩ ?_
      refine lv_aload_n hx hb dX3_replicate_40 rfl (lv_at hl 2 rfl) ?_
      refine lv_iload_n hx hb dX3_replicate_41 rfl (lv_at hl 3 rfl) ?_
      refine lv_iload_n hx hb dX3_replicate_42 rfl (lv_at hl 4 rfl) ?_
      refine r_gR (As := [.int (nI i), .int (nI j)]) (rest := []) (Cs := [wR ct r a u sa, wT ct a n dc pa va dl ge su, wS ct (sa i) g dp2 lt2 ch2 ck2, wH ct g hd2 nl2 wi2, wS ct (sa j) h dp lt ch ck, wH ct h hd nl wi]) ⟨hx, hb, hml, hown, hts⟩ (cX3_commonCheckpoint_ok l D ct r u sa a n dc pa va dl ge su dp lt ch ck h hd nl wi dp2 lt2 ch2 ck2 g hd2 nl2 wi2 i j (by first | assumption | omega) (by first | assumption | omega)) rfl  (cwV 2 hts gX3_replicate_X3_commonCheckpoint rfl rfl rfl (by decide +kernel) ⟨Nat.le_of_ble_eq_true rfl, Nat.le_of_ble_eq_true rfl⟩) hK hP [0, 1, 2, 3, 4, 5] rfl 0 3 rfl rfl rfl hl.1 rfl (Nat.le_of_ble_eq_true rfl) dX3_replicate_43 ⟨Nat.le_of_ble_eq_true rfl, Nat.le_of_ble_eq_true rfl⟩ ?_
      refine lv_istore (lv' := [(6, .int (mnI (ck2 ((i * 3) + j)) (ck ((i * 3) + j)))), (5, .ref ((sa j) 0)), (4, .ref ((sa i) 0)), (0, .ref (r 0)), (1, .int (nI i)), (2, .int (nI j)), (3, .int (nI lim))]) hx hb dX3_replicate_46 hl (by decide) rfl (fun ls hl => ?_)
      refine lv_iconst (v := nI 0) hx hb dX3_replicate_48 (by decide) ?_
      refine lv_istore (lv' := [(7, .int (nI 0)), (6, .int (mnI (ck2 ((i * 3) + j)) (ck ((i * 3) + j)))), (5, .ref ((sa j) 0)), (4, .ref ((sa i) 0)), (0, .ref (r 0)), (1, .int (nI i)), (2, .int (nI j)), (3, .int (nI lim))]) hx hb dX3_replicate_49 hl (by decide) rfl (fun ls hl => ?_)
      refine lv_iconst (v := nI 0) hx hb dX3_replicate_51 (by decide) ?_
      refine lv_istore (lv' := [(8, .int (nI 0)), (7, .int (nI 0)), (6, .int (mnI (ck2 ((i * 3) + j)) (ck ((i * 3) + j)))), (5, .ref ((sa j) 0)), (4, .ref ((sa i) 0)), (0, .ref (r 0)), (1, .int (nI i)), (2, .int (nI j)), (3, .int (nI lim))]) hx hb dX3_replicate_52 hl (by decide) rfl (fun ls hl => ?_)
      have key54 : ∀ (d54 : Nat) (k : Nat) (x : CS) (hkl : k ≤ lim) (hxl : ∀ k9, x.2.2.2.2.2.1 k9 ≤ 151) (hq : x = csS dc pa dl ge su n dp hd2 nl2 ch2 (0, mnI (ck2 ((i * 3) + j)) (ck ((i * 3) + j)), lt, ch, hd, nl, wi) k), lim - k < d54 → ∀ (H : Heap) (locs : List Loc) (ls : Array Slot), va_P D vwCl (fl [wR ct r a u sa, wT ct a n dc pa va dl ge su, wS ct (sa i) g dp2 lt2 ch2 ck2, wH ct g hd2 nl2 wi2, wS ct (sa j) h dp x.2.2.1 x.2.2.2.1 ck, wH ct h x.2.2.2.2.1 x.2.2.2.2.2.1 x.2.2.2.2.2.2]) H → va_D A (fl [wR ct r a u sa, wT ct a n dc pa va dl ge su, wS ct (sa i) g dp2 lt2 ch2 ck2, wH ct g hd2 nl2 wi2, wS ct (sa j) h dp x.2.2.1 x.2.2.2.1 ck, wH ct h x.2.2.2.2.1 x.2.2.2.2.2.1 x.2.2.2.2.2.2]) → va_S A s.heap H locs → lv_has ls 10 [(8, .int (nI k)), (7, .int (nI x.1)), (6, .int x.2.1), (5, .ref ((sa j) 0)), (4, .ref ((sa i) 0)), (0, .ref (r 0)), (1, .int (nI i)), (2, .int (nI j)), (3, .int (nI lim))] → W p l e ({ frames := 6, cells := 0, slots := 0, locals := 133 } : Room) s m ([.ref (r 0), .int (nI i), .int (nI j), .int (nI lim)] : List Value).toArray below meth c H locs 0 0 (MQ below (wqI D (nI y.1) (fl [wR ct r a u sa, wT ct a n dc pa va dl ge su, wS ct (sa i) g dp2 lt2 ch2 (va_up ck2 ((i * 3) + j) (csa ch2 lt2 y)), wH ct g hd2 nl2 wi2, wS ct (sa j) h dp y.2.2.1 y.2.2.2.1 (va_up ck ((i * 3) + j) (csa ch2 lt2 y)), wH ct h y.2.2.2.2.1 y.2.2.2.2.2.1 y.2.2.2.2.2.2]) A) ([.ref (r 0), .int (nI i), .int (nI j), .int (nI lim)] : List Value).toArray s 0 0 A) (F0 m 54 ls []) := by
        intro d54
        induction d54 with
        | zero => intro k x hkl hxl hq h9; exact absurd h9 (Nat.not_lt_zero _)
        | succ d54 ih54 =>
          intro k x hkl hxl hq hm54 H locs ls hP hD hS hl
          refine lv_iload hx hb dX3_replicate_54 (lv_at hl 0 rfl) ?_
          refine lv_iload_n hx hb dX3_replicate_56 rfl (lv_at hl 8 rfl) ?_
          refine r_icmp_geN hx hb (x := k) (y := lim) (by first | omega | decide) (by first | omega | decide) (tgt := 112) dX3_replicate_57 (by decide) (fun c57 => ?_) (fun c57 => ?_)
          · have e112 : x = y := by rw [hq, hy, show k = lim by omega]
            have e9 : x.2.2.1 = y.2.2.1 := by rw [e112]
            have hP := (congrArg (fun z9 => va_P D vwCl (fl [wR ct r a u sa, wT ct a n dc pa va dl ge su, wS ct (sa i) g dp2 lt2 ch2 ck2, wH ct g hd2 nl2 wi2, wS ct (sa j) h dp z9 x.2.2.2.1 ck, wH ct h x.2.2.2.2.1 x.2.2.2.2.2.1 x.2.2.2.2.2.2]) H) e9).mp hP
            have hD := (congrArg (fun z9 => va_D A (fl [wR ct r a u sa, wT ct a n dc pa va dl ge su, wS ct (sa i) g dp2 lt2 ch2 ck2, wH ct g hd2 nl2 wi2, wS ct (sa j) h dp z9 x.2.2.2.1 ck, wH ct h x.2.2.2.2.1 x.2.2.2.2.2.1 x.2.2.2.2.2.2])) e9).mp hD
            have e9 : x.2.2.2.1 = y.2.2.2.1 := by rw [e112]
            have hP := (congrArg (fun z9 => va_P D vwCl (fl [wR ct r a u sa, wT ct a n dc pa va dl ge su, wS ct (sa i) g dp2 lt2 ch2 ck2, wH ct g hd2 nl2 wi2, wS ct (sa j) h dp y.2.2.1 z9 ck, wH ct h x.2.2.2.2.1 x.2.2.2.2.2.1 x.2.2.2.2.2.2]) H) e9).mp hP
            have hD := (congrArg (fun z9 => va_D A (fl [wR ct r a u sa, wT ct a n dc pa va dl ge su, wS ct (sa i) g dp2 lt2 ch2 ck2, wH ct g hd2 nl2 wi2, wS ct (sa j) h dp y.2.2.1 z9 ck, wH ct h x.2.2.2.2.1 x.2.2.2.2.2.1 x.2.2.2.2.2.2])) e9).mp hD
            have e9 : x.2.2.2.2.1 = y.2.2.2.2.1 := by rw [e112]
            have hP := (congrArg (fun z9 => va_P D vwCl (fl [wR ct r a u sa, wT ct a n dc pa va dl ge su, wS ct (sa i) g dp2 lt2 ch2 ck2, wH ct g hd2 nl2 wi2, wS ct (sa j) h dp y.2.2.1 y.2.2.2.1 ck, wH ct h z9 x.2.2.2.2.2.1 x.2.2.2.2.2.2]) H) e9).mp hP
            have hD := (congrArg (fun z9 => va_D A (fl [wR ct r a u sa, wT ct a n dc pa va dl ge su, wS ct (sa i) g dp2 lt2 ch2 ck2, wH ct g hd2 nl2 wi2, wS ct (sa j) h dp y.2.2.1 y.2.2.2.1 ck, wH ct h z9 x.2.2.2.2.2.1 x.2.2.2.2.2.2])) e9).mp hD
            have e9 : x.2.2.2.2.2.1 = y.2.2.2.2.2.1 := by rw [e112]
            have hP := (congrArg (fun z9 => va_P D vwCl (fl [wR ct r a u sa, wT ct a n dc pa va dl ge su, wS ct (sa i) g dp2 lt2 ch2 ck2, wH ct g hd2 nl2 wi2, wS ct (sa j) h dp y.2.2.1 y.2.2.2.1 ck, wH ct h y.2.2.2.2.1 z9 x.2.2.2.2.2.2]) H) e9).mp hP
            have hD := (congrArg (fun z9 => va_D A (fl [wR ct r a u sa, wT ct a n dc pa va dl ge su, wS ct (sa i) g dp2 lt2 ch2 ck2, wH ct g hd2 nl2 wi2, wS ct (sa j) h dp y.2.2.1 y.2.2.2.1 ck, wH ct h y.2.2.2.2.1 z9 x.2.2.2.2.2.2])) e9).mp hD
            have e9 : x.2.2.2.2.2.2 = y.2.2.2.2.2.2 := by rw [e112]
            have hP := (congrArg (fun z9 => va_P D vwCl (fl [wR ct r a u sa, wT ct a n dc pa va dl ge su, wS ct (sa i) g dp2 lt2 ch2 ck2, wH ct g hd2 nl2 wi2, wS ct (sa j) h dp y.2.2.1 y.2.2.2.1 ck, wH ct h y.2.2.2.2.1 y.2.2.2.2.2.1 z9]) H) e9).mp hP
            have hD := (congrArg (fun z9 => va_D A (fl [wR ct r a u sa, wT ct a n dc pa va dl ge su, wS ct (sa i) g dp2 lt2 ch2 ck2, wH ct g hd2 nl2 wi2, wS ct (sa j) h dp y.2.2.1 y.2.2.2.1 ck, wH ct h y.2.2.2.2.1 y.2.2.2.2.2.1 z9])) e9).mp hD
            have hP : va_P D vwCl (fl [wR ct r a u sa, wT ct a n dc pa va dl ge su, wS ct (sa i) g dp2 lt2 ch2 ck2, wH ct g hd2 nl2 wi2, wS ct (sa j) h dp y.2.2.1 y.2.2.2.1 ck, wH ct h y.2.2.2.2.1 y.2.2.2.2.2.1 y.2.2.2.2.2.2]) H := hP
            have hD : va_D A (fl [wR ct r a u sa, wT ct a n dc pa va dl ge su, wS ct (sa i) g dp2 lt2 ch2 ck2, wH ct g hd2 nl2 wi2, wS ct (sa j) h dp y.2.2.1 y.2.2.2.1 ck, wH ct h y.2.2.2.2.1 y.2.2.2.2.2.1 y.2.2.2.2.2.2]) := hD
            have hl := lv_re (f := fun z9 => [(8, .int (nI k)), (7, .int z9), (6, .int x.2.1), (5, .ref ((sa j) 0)), (4, .ref ((sa i) 0)), (0, .ref (r 0)), (1, .int (nI i)), (2, .int (nI j)), (3, .int (nI lim))]) hl (show nI x.1 = nI y.1 from congrArg nI (show x.1 = y.1 from by rw [e112]))
            have hl := lv_re (f := fun z9 => [(8, .int (nI k)), (7, .int (nI y.1)), (6, .int z9), (5, .ref ((sa j) 0)), (4, .ref ((sa i) 0)), (0, .ref (r 0)), (1, .int (nI i)), (2, .int (nI j)), (3, .int (nI lim))]) hl (show x.2.1 = y.2.1 from by rw [e112])
            refine lv_aload hx hb dX3_replicate_112 (lv_at hl 4 rfl) ?_
            refine lv_iload hx hb dX3_replicate_114 (lv_at hl 2 rfl) ?_
            refine r_gR (As := [.int y.2.1]) (rest := []) (Cs := [wS ct (sa i) g dp2 lt2 ch2 ck2]) ⟨hx, hb, hml, hown, hts⟩ (cX1_nextChanged_ok l D ct (sa i) dp2 lt2 ch2 ck2 g y.2.1 ) (fl1 _)  (cwV 1 hts gX3_replicate_X1_nextChanged rfl rfl rfl (by decide +kernel) ⟨Nat.le_of_ble_eq_true rfl, Nat.le_of_ble_eq_true rfl⟩) hK hP [2] rfl 0 1 rfl rfl rfl hl.1 rfl (Nat.le_of_ble_eq_true rfl) dX3_replicate_116 ⟨Nat.le_of_ble_eq_true rfl, Nat.le_of_ble_eq_true rfl⟩ ?_
            refine lv_iconst (v := -1) hx hb dX3_replicate_119 (by decide) ?_
            refine r_icmp_neP hx hb (x := nxS ch2 y.2.1 4) (by intro j9 h9; have := nxS_lt _ _ _ _ h9; omega) (tgt := 130) dX3_replicate_120 (by decide) (fun j120 c120 => ?_) (fun c120 => ?_)
            · have hl := lv_re (f := fun z9 => [(8, .int (nI k)), (7, .int (nI y.1)), (6, .int z9), (5, .ref ((sa j) 0)), (4, .ref ((sa i) 0)), (0, .ref (r 0)), (1, .int (nI i)), (2, .int (nI j)), (3, .int (nI lim))]) hl (show y.2.1 = csa ch2 lt2 y from by simp [csa, c16, c21, c57, c120])
              refine lv_aload hx hb dX3_replicate_130 (lv_at hl 4 rfl) ?_
              refine va_getN (D := D) (ci := 1) (v := .ref ((sa i) 2)) (C := RX1) (T := TX1) (N := 5) hx hb hts (fun _ h => List.mem_cons_of_mem _ (List.mem_append_left _ (List.mem_append_left _ (List.mem_append_left _ (List.mem_append_left _ (List.mem_append_right _ h)))))) hown hK.1 hP 9 rfl rfl 4 (by decide) (va_Nw.use rfl (hK.2 _ (List.mem_of_getElem? (i := 7) rfl))) (fun _ h9 => h9) rfl dX3_replicate_132 ?_
              refine lv_iload_n hx hb dX3_replicate_135 rfl (lv_at hl 6 rfl) ?_
              refine lv_iload_n hx hb dX3_replicate_136 rfl (lv_at hl 7 rfl) ?_
              refine r_cS (As := [.int (nI i), .int (nI j)]) (rest := [.ref ((sa i) 2)]) ⟨hx, hb, hml, hown, hts⟩ (cX3_pairOf_ok l D ct i j ) (va_cwS 2 hts gX3_replicate_X3_pairOf rfl rfl rfl (by decide +kernel) ⟨Nat.le_of_ble_eq_true rfl, Nat.le_of_ble_eq_true rfl⟩) hK va_Pnil rfl hl.1 rfl (Nat.le_of_ble_eq_true rfl) dX3_replicate_137 ⟨Nat.le_of_ble_eq_true rfl, Nat.le_of_ble_eq_true rfl⟩ ?_
              refine lv_iload hx hb dX3_replicate_140 (lv_at hl 2 rfl) ?_
              refine r_iast (j := (i * 3) + j) (x := (csa ch2 lt2 y)) (f' := va_up ck2 ((i * 3) + j) (csa ch2 lt2 y)) hx hb hK.1 hP hD hS 11 0 rfl rfl (by omega) (by first | decide | omega) (up_i _ _ _) dX3_replicate_142 (fun H locs hP hD hS => ?_)
              have hP : va_P D vwCl (fl [wR ct r a u sa, wT ct a n dc pa va dl ge su, wS ct (sa i) g dp2 lt2 ch2 (va_up ck2 ((i * 3) + j) (csa ch2 lt2 y)), wH ct g hd2 nl2 wi2, wS ct (sa j) h dp y.2.2.1 y.2.2.2.1 ck, wH ct h y.2.2.2.2.1 y.2.2.2.2.2.1 y.2.2.2.2.2.2]) H := hP
              have hD : va_D A (fl [wR ct r a u sa, wT ct a n dc pa va dl ge su, wS ct (sa i) g dp2 lt2 ch2 (va_up ck2 ((i * 3) + j) (csa ch2 lt2 y)), wH ct g hd2 nl2 wi2, wS ct (sa j) h dp y.2.2.1 y.2.2.2.1 ck, wH ct h y.2.2.2.2.1 y.2.2.2.2.2.1 y.2.2.2.2.2.2]) := hD
              refine lv_aload hx hb dX3_replicate_143 (lv_at hl 3 rfl) ?_
              refine va_getN (D := D) (ci := 1) (v := .ref ((sa j) 2)) (C := RX1) (T := TX1) (N := 5) hx hb hts (fun _ h => List.mem_cons_of_mem _ (List.mem_append_left _ (List.mem_append_left _ (List.mem_append_left _ (List.mem_append_left _ (List.mem_append_right _ h)))))) hown hK.1 hP 16 rfl rfl 4 (by decide) (va_Nw.use rfl (hK.2 _ (List.mem_of_getElem? (i := 7) rfl))) (fun _ h9 => h9) rfl dX3_replicate_145 ?_
              refine lv_iload_n hx hb dX3_replicate_148 rfl (lv_at hl 6 rfl) ?_
              refine lv_iload_n hx hb dX3_replicate_149 rfl (lv_at hl 7 rfl) ?_
              refine r_cS (As := [.int (nI i), .int (nI j)]) (rest := [.ref ((sa j) 2)]) ⟨hx, hb, hml, hown, hts⟩ (cX3_pairOf_ok l D ct i j ) (va_cwS 2 hts gX3_replicate_X3_pairOf rfl rfl rfl (by decide +kernel) ⟨Nat.le_of_ble_eq_true rfl, Nat.le_of_ble_eq_true rfl⟩) hK va_Pnil rfl hl.1 rfl (Nat.le_of_ble_eq_true rfl) dX3_replicate_150 ⟨Nat.le_of_ble_eq_true rfl, Nat.le_of_ble_eq_true rfl⟩ ?_
              refine lv_iload hx hb dX3_replicate_153 (lv_at hl 2 rfl) ?_
              refine r_iast (j := (i * 3) + j) (x := (csa ch2 lt2 y)) (f' := va_up ck ((i * 3) + j) (csa ch2 lt2 y)) hx hb hK.1 hP hD hS 18 0 rfl rfl (by omega) (by first | decide | omega) (up_i _ _ _) dX3_replicate_155 (fun H locs hP hD hS => ?_)
              have hP : va_P D vwCl (fl [wR ct r a u sa, wT ct a n dc pa va dl ge su, wS ct (sa i) g dp2 lt2 ch2 (va_up ck2 ((i * 3) + j) (csa ch2 lt2 y)), wH ct g hd2 nl2 wi2, wS ct (sa j) h dp y.2.2.1 y.2.2.2.1 (va_up ck ((i * 3) + j) (csa ch2 lt2 y)), wH ct h y.2.2.2.2.1 y.2.2.2.2.2.1 y.2.2.2.2.2.2]) H := hP
              have hD : va_D A (fl [wR ct r a u sa, wT ct a n dc pa va dl ge su, wS ct (sa i) g dp2 lt2 ch2 (va_up ck2 ((i * 3) + j) (csa ch2 lt2 y)), wH ct g hd2 nl2 wi2, wS ct (sa j) h dp y.2.2.1 y.2.2.2.1 (va_up ck ((i * 3) + j) (csa ch2 lt2 y)), wH ct h y.2.2.2.2.1 y.2.2.2.2.2.1 y.2.2.2.2.2.2]) := hD
              refine lv_iload hx hb dX3_replicate_156 (lv_at hl 1 rfl) ?_
              exact W.iret hx hb hr (fun t ht hW => ⟨⟨_, (), rfl, rfl, by show va_P D vwCl _ t.heap; rw [ht]; exact hP⟩, hS.F ht⟩) hS.2.2 dX3_replicate_158
            · refine lv_aload hx hb dX3_replicate_123 (lv_at hl 4 rfl) ?_
              refine va_getN (D := D) (ci := 1) (v := .int lt2) (C := RX1) (T := TX1) (N := 5) hx hb hts (fun _ h => List.mem_cons_of_mem _ (List.mem_append_left _ (List.mem_append_left _ (List.mem_append_left _ (List.mem_append_left _ (List.mem_append_right _ h)))))) hown hK.1 hP 9 rfl rfl 2 (by decide) (va_Nw.use rfl (hK.2 _ (List.mem_of_getElem? (i := 6) rfl))) (fun _ h9 => h9) rfl dX3_replicate_125 ?_
              refine lv_istore (lv' := [(6, .int lt2), (8, .int (nI k)), (7, .int (nI y.1)), (5, .ref ((sa j) 0)), (4, .ref ((sa i) 0)), (0, .ref (r 0)), (1, .int (nI i)), (2, .int (nI j)), (3, .int (nI lim))]) hx hb dX3_replicate_128 hl (by decide) rfl (fun ls hl => ?_)
              have hl := lv_re (f := fun z9 => [(6, .int z9), (8, .int (nI k)), (7, .int (nI y.1)), (5, .ref ((sa j) 0)), (4, .ref ((sa i) 0)), (0, .ref (r 0)), (1, .int (nI i)), (2, .int (nI j)), (3, .int (nI lim))]) hl (show lt2 = csa ch2 lt2 y from by simp [csa, c16, c21, c57, c120])
              refine lv_aload hx hb dX3_replicate_130 (lv_at hl 4 rfl) ?_
              refine va_getN (D := D) (ci := 1) (v := .ref ((sa i) 2)) (C := RX1) (T := TX1) (N := 5) hx hb hts (fun _ h => List.mem_cons_of_mem _ (List.mem_append_left _ (List.mem_append_left _ (List.mem_append_left _ (List.mem_append_left _ (List.mem_append_right _ h)))))) hown hK.1 hP 9 rfl rfl 4 (by decide) (va_Nw.use rfl (hK.2 _ (List.mem_of_getElem? (i := 7) rfl))) (fun _ h9 => h9) rfl dX3_replicate_132 ?_
              refine lv_iload_n hx hb dX3_replicate_135 rfl (lv_at hl 6 rfl) ?_
              refine lv_iload_n hx hb dX3_replicate_136 rfl (lv_at hl 7 rfl) ?_
              refine r_cS (As := [.int (nI i), .int (nI j)]) (rest := [.ref ((sa i) 2)]) ⟨hx, hb, hml, hown, hts⟩ (cX3_pairOf_ok l D ct i j ) (va_cwS 2 hts gX3_replicate_X3_pairOf rfl rfl rfl (by decide +kernel) ⟨Nat.le_of_ble_eq_true rfl, Nat.le_of_ble_eq_true rfl⟩) hK va_Pnil rfl hl.1 rfl (Nat.le_of_ble_eq_true rfl) dX3_replicate_137 ⟨Nat.le_of_ble_eq_true rfl, Nat.le_of_ble_eq_true rfl⟩ ?_
              refine lv_iload hx hb dX3_replicate_140 (lv_at hl 0 rfl) ?_
              refine r_iast (j := (i * 3) + j) (x := (csa ch2 lt2 y)) (f' := va_up ck2 ((i * 3) + j) (csa ch2 lt2 y)) hx hb hK.1 hP hD hS 11 0 rfl rfl (by omega) (by first | decide | omega) (up_i _ _ _) dX3_replicate_142 (fun H locs hP hD hS => ?_)
              have hP : va_P D vwCl (fl [wR ct r a u sa, wT ct a n dc pa va dl ge su, wS ct (sa i) g dp2 lt2 ch2 (va_up ck2 ((i * 3) + j) (csa ch2 lt2 y)), wH ct g hd2 nl2 wi2, wS ct (sa j) h dp y.2.2.1 y.2.2.2.1 ck, wH ct h y.2.2.2.2.1 y.2.2.2.2.2.1 y.2.2.2.2.2.2]) H := hP
              have hD : va_D A (fl [wR ct r a u sa, wT ct a n dc pa va dl ge su, wS ct (sa i) g dp2 lt2 ch2 (va_up ck2 ((i * 3) + j) (csa ch2 lt2 y)), wH ct g hd2 nl2 wi2, wS ct (sa j) h dp y.2.2.1 y.2.2.2.1 ck, wH ct h y.2.2.2.2.1 y.2.2.2.2.2.1 y.2.2.2.2.2.2]) := hD
              refine lv_aload hx hb dX3_replicate_143 (lv_at hl 3 rfl) ?_
              refine va_getN (D := D) (ci := 1) (v := .ref ((sa j) 2)) (C := RX1) (T := TX1) (N := 5) hx hb hts (fun _ h => List.mem_cons_of_mem _ (List.mem_append_left _ (List.mem_append_left _ (List.mem_append_left _ (List.mem_append_left _ (List.mem_append_right _ h)))))) hown hK.1 hP 16 rfl rfl 4 (by decide) (va_Nw.use rfl (hK.2 _ (List.mem_of_getElem? (i := 7) rfl))) (fun _ h9 => h9) rfl dX3_replicate_145 ?_
              refine lv_iload_n hx hb dX3_replicate_148 rfl (lv_at hl 6 rfl) ?_
              refine lv_iload_n hx hb dX3_replicate_149 rfl (lv_at hl 7 rfl) ?_
              refine r_cS (As := [.int (nI i), .int (nI j)]) (rest := [.ref ((sa j) 2)]) ⟨hx, hb, hml, hown, hts⟩ (cX3_pairOf_ok l D ct i j ) (va_cwS 2 hts gX3_replicate_X3_pairOf rfl rfl rfl (by decide +kernel) ⟨Nat.le_of_ble_eq_true rfl, Nat.le_of_ble_eq_true rfl⟩) hK va_Pnil rfl hl.1 rfl (Nat.le_of_ble_eq_true rfl) dX3_replicate_150 ⟨Nat.le_of_ble_eq_true rfl, Nat.le_of_ble_eq_true rfl⟩ ?_
              refine lv_iload hx hb dX3_replicate_153 (lv_at hl 0 rfl) ?_
              refine r_iast (j := (i * 3) + j) (x := (csa ch2 lt2 y)) (f' := va_up ck ((i * 3) + j) (csa ch2 lt2 y)) hx hb hK.1 hP hD hS 18 0 rfl rfl (by omega) (by first | decide | omega) (up_i _ _ _) dX3_replicate_155 (fun H locs hP hD hS => ?_)
              have hP : va_P D vwCl (fl [wR ct r a u sa, wT ct a n dc pa va dl ge su, wS ct (sa i) g dp2 lt2 ch2 (va_up ck2 ((i * 3) + j) (csa ch2 lt2 y)), wH ct g hd2 nl2 wi2, wS ct (sa j) h dp y.2.2.1 y.2.2.2.1 (va_up ck ((i * 3) + j) (csa ch2 lt2 y)), wH ct h y.2.2.2.2.1 y.2.2.2.2.2.1 y.2.2.2.2.2.2]) H := hP
              have hD : va_D A (fl [wR ct r a u sa, wT ct a n dc pa va dl ge su, wS ct (sa i) g dp2 lt2 ch2 (va_up ck2 ((i * 3) + j) (csa ch2 lt2 y)), wH ct g hd2 nl2 wi2, wS ct (sa j) h dp y.2.2.1 y.2.2.2.1 (va_up ck ((i * 3) + j) (csa ch2 lt2 y)), wH ct h y.2.2.2.2.1 y.2.2.2.2.2.1 y.2.2.2.2.2.2]) := hD
              refine lv_iload hx hb dX3_replicate_156 (lv_at hl 2 rfl) ?_
              exact W.iret hx hb hr (fun t ht hW => ⟨⟨_, (), rfl, rfl, by show va_P D vwCl _ t.heap; rw [ht]; exact hP⟩, hS.F ht⟩) hS.2.2 dX3_replicate_158
          · refine lv_aload hx hb dX3_replicate_60 (lv_at hl 4 rfl) ?_
            refine lv_iload hx hb dX3_replicate_62 (lv_at hl 2 rfl) ?_
            refine r_gR (As := [.int x.2.1]) (rest := []) (Cs := [wS ct (sa i) g dp2 lt2 ch2 ck2]) ⟨hx, hb, hml, hown, hts⟩ (cX1_nextChanged_ok l D ct (sa i) dp2 lt2 ch2 ck2 g x.2.1 ) (fl1 _)  (cwV 1 hts gX3_replicate_X1_nextChanged rfl rfl rfl (by decide +kernel) ⟨Nat.le_of_ble_eq_true rfl, Nat.le_of_ble_eq_true rfl⟩) hK hP [2] rfl 0 1 rfl rfl rfl hl.1 rfl (Nat.le_of_ble_eq_true rfl) dX3_replicate_64 ⟨Nat.le_of_ble_eq_true rfl, Nat.le_of_ble_eq_true rfl⟩ ?_
            refine lv_istore (lv' := [(9, .int (eP (nxS ch2 x.2.1 4))), (8, .int (nI k)), (7, .int (nI x.1)), (6, .int x.2.1), (5, .ref ((sa j) 0)), (4, .ref ((sa i) 0)), (0, .ref (r 0)), (1, .int (nI i)), (2, .int (nI j)), (3, .int (nI lim))]) hx hb dX3_replicate_67 hl (by decide) rfl (fun ls hl => ?_)
            refine lv_iload hx hb dX3_replicate_69 (lv_at hl 0 rfl) ?_
            refine lv_iconst (v := -1) hx hb dX3_replicate_71 (by decide) ?_
            refine r_icmp_eqP hx hb (x := nxS ch2 x.2.1 4) (by intro j9 h9; have := nxS_lt _ _ _ _ h9; omega) (tgt := 106) dX3_replicate_72 (by decide) (fun c72 => ?_) (fun j72 c72 => ?_)
            · have hl := lv_re (f := fun z9 => [(9, .int z9), (8, .int (nI k)), (7, .int (nI x.1)), (6, .int x.2.1), (5, .ref ((sa j) 0)), (4, .ref ((sa i) 0)), (0, .ref (r 0)), (1, .int (nI i)), (2, .int (nI j)), (3, .int (nI lim))]) hl (show eP (nxS ch2 x.2.1 4) = eP none from congrArg eP c72)
              refine lv_iinc (v := nI (k + 1)) (lv' := [(8, .int (nI (k + 1))), (9, .int (eP none)), (7, .int (nI x.1)), (6, .int x.2.1), (5, .ref ((sa j) 0)), (4, .ref ((sa i) 0)), (0, .ref (r 0)), (1, .int (nI i)), (2, .int (nI j)), (3, .int (nI lim))]) hx hb dX3_replicate_106 hl (k := 1) rfl (nI_1 _) (by decide) rfl (fun ls hl => ?_)
              refine lv_goto (tgt := 54) hx hb dX3_replicate_109 (by decide) ?_
              exact ih54 (k + 1) x (by first | assumption | omega) (by first | exact csg_nl hxl | exact hxl) (by first | (rw [hq] at c72; rw [csS_s c72, ← hq]; done) | (rw [hq] at c72; rw [csS_n c72, ← hq]; done)) (by omega) H locs ls hP hD hS (lv_sub hl [0, 2, 3, 4, 5, 6, 7, 8, 9] rfl)
            · have hl := lv_re (f := fun z9 => [(9, .int z9), (8, .int (nI k)), (7, .int (nI x.1)), (6, .int x.2.1), (5, .ref ((sa j) 0)), (4, .ref ((sa i) 0)), (0, .ref (r 0)), (1, .int (nI i)), (2, .int (nI j)), (3, .int (nI lim))]) hl (show eP (nxS ch2 x.2.1 4) = nI j72 from congrArg eP c72)
              have e75 := nxS_lt _ _ _ _ c72
              refine lv_iload hx hb dX3_replicate_75 (lv_at hl 2 rfl) ?_
              refine lv_aload hx hb dX3_replicate_77 (lv_at hl 4 rfl) ?_
              refine lv_aload_n hx hb dX3_replicate_79 rfl (lv_at hl 6 rfl) ?_
              refine va_get (D := D) (ci := 3) (v := .ref (a 0)) (C := RX3) (T := TX3) (N := 3) hx hb hts (fun _ h => List.mem_cons_of_mem _ (List.mem_append_left _ (List.mem_append_left _ (List.mem_append_left _ (List.mem_append_left _ (List.mem_append_left _ (List.mem_append_right _ h))))))) hown hK.1 hP 0 rfl rfl 0 (by decide) (hts (.fieldLink RX3 10 "RevisionStores" "tree" "LRevisionStores$Tree;") (List.mem_of_getElem? (i := 3) rfl)) (fun _ h9 => h9) rfl dX3_replicate_80 ?_
              refine lv_aload hx hb dX3_replicate_83 (lv_at hl 5 rfl) ?_
              refine va_getN (D := D) (ci := 1) (v := .ref (g 0)) (C := RX1) (T := TX1) (N := 5) hx hb hts (fun _ h => List.mem_cons_of_mem _ (List.mem_append_left _ (List.mem_append_left _ (List.mem_append_left _ (List.mem_append_left _ (List.mem_append_right _ h)))))) hown hK.1 hP 9 rfl rfl 0 (by decide) (va_Nw.use rfl (hK.2 _ (List.mem_of_getElem? (i := 4) rfl))) (fun _ h9 => h9) rfl dX3_replicate_85 ?_
              refine lv_iload hx hb dX3_replicate_88 (lv_at hl 0 rfl) ?_
              refine r_gV (As := [.ref (a 0), .ref (g 0), .int (nI j72)]) (rest := [.int (nI x.1)]) (Cs := [wS ct (sa j) h dp x.2.2.1 x.2.2.2.1 ck, wH ct h x.2.2.2.2.1 x.2.2.2.2.2.1 x.2.2.2.2.2.2, wT ct a n dc pa va dl ge su, wH ct g hd2 nl2 wi2]) (C1 := [wS ct (sa j) h dp (if 0 < (abS dc pa hd2 (ends hd2 nl2) x.2.2.2.2.2.1 j72 x.2.2.2.2.1 n).1 then x.2.2.1 + nI 1 else x.2.2.1) (if 0 < (abS dc pa hd2 (ends hd2 nl2) x.2.2.2.2.2.1 j72 x.2.2.2.2.1 n).1 then va_up x.2.2.2.1 j72 (x.2.2.1 + nI 1) else x.2.2.2.1) ck, wH ct h (if 0 < (abS dc pa hd2 (ends hd2 nl2) x.2.2.2.2.2.1 j72 x.2.2.2.2.1 n).1 then stm ((abS dc pa hd2 (ends hd2 nl2) x.2.2.2.2.2.1 j72 x.2.2.2.2.1 n).2) (flS pa ge ((abS dc pa hd2 (ends hd2 nl2) x.2.2.2.2.2.1 j72 x.2.2.2.2.1 n).2) n n) ge dp n else (abS dc pa hd2 (ends hd2 nl2) x.2.2.2.2.2.1 j72 x.2.2.2.2.1 n).2) (if 0 < (abS dc pa hd2 (ends hd2 nl2) x.2.2.2.2.2.1 j72 x.2.2.2.2.1 n).1 then flS pa ge ((abS dc pa hd2 (ends hd2 nl2) x.2.2.2.2.2.1 j72 x.2.2.2.2.1 n).2) n n else x.2.2.2.2.2.1) (if 0 < (abS dc pa hd2 (ends hd2 nl2) x.2.2.2.2.2.1 j72 x.2.2.2.2.1 n).1 then fwS dc dl ge su (ends ((abS dc pa hd2 (ends hd2 nl2) x.2.2.2.2.2.1 j72 x.2.2.2.2.1 n).2) (flS pa ge ((abS dc pa hd2 (ends hd2 nl2) x.2.2.2.2.2.1 j72 x.2.2.2.2.1 n).2) n n)) n else x.2.2.2.2.2.2), wT ct a n dc pa va dl ge su, wH ct g hd2 nl2 wi2]) ⟨hx, hb, hml, hown, hts⟩ (cX1_receive_ok l D ct (sa j) dp x.2.2.1 x.2.2.2.1 ck h x.2.2.2.2.1 x.2.2.2.2.2.1 x.2.2.2.2.2.2 a n dc pa va dl ge su g hd2 nl2 wi2 j72 (by first | assumption | omega) (by first | assumption | omega) (by first | assumption | omega) (by first | assumption | omega) (hxl) (hNl2) (e75) H.size) (fl4 _ _ _ _) (fl4 _ _ _ _) (cwV 3 hts gX3_replicate_X1_receive rfl rfl rfl (by decide +kernel) ⟨Nat.le_of_ble_eq_true rfl, Nat.le_of_ble_eq_true rfl⟩) hK hP hD hS hA [4, 5, 1, 3] rfl rfl rfl 0 1 rfl rfl rfl hl.1 rfl (Nat.le_of_ble_eq_true rfl) dX3_replicate_90 ⟨Nat.le_of_ble_eq_true rfl, Nat.le_of_ble_eq_true rfl⟩ (fun H locs hP hD hS _ _ => ?_)
              have hP : va_P D vwCl (fl [wR ct r a u sa, wT ct a n dc pa va dl ge su, wS ct (sa i) g dp2 lt2 ch2 ck2, wH ct g hd2 nl2 wi2, wS ct (sa j) h dp (if 0 < (abS dc pa hd2 (ends hd2 nl2) x.2.2.2.2.2.1 j72 x.2.2.2.2.1 n).1 then x.2.2.1 + nI 1 else x.2.2.1) (if 0 < (abS dc pa hd2 (ends hd2 nl2) x.2.2.2.2.2.1 j72 x.2.2.2.2.1 n).1 then va_up x.2.2.2.1 j72 (x.2.2.1 + nI 1) else x.2.2.2.1) ck, wH ct h (if 0 < (abS dc pa hd2 (ends hd2 nl2) x.2.2.2.2.2.1 j72 x.2.2.2.2.1 n).1 then stm ((abS dc pa hd2 (ends hd2 nl2) x.2.2.2.2.2.1 j72 x.2.2.2.2.1 n).2) (flS pa ge ((abS dc pa hd2 (ends hd2 nl2) x.2.2.2.2.2.1 j72 x.2.2.2.2.1 n).2) n n) ge dp n else (abS dc pa hd2 (ends hd2 nl2) x.2.2.2.2.2.1 j72 x.2.2.2.2.1 n).2) (if 0 < (abS dc pa hd2 (ends hd2 nl2) x.2.2.2.2.2.1 j72 x.2.2.2.2.1 n).1 then flS pa ge ((abS dc pa hd2 (ends hd2 nl2) x.2.2.2.2.2.1 j72 x.2.2.2.2.1 n).2) n n else x.2.2.2.2.2.1) (if 0 < (abS dc pa hd2 (ends hd2 nl2) x.2.2.2.2.2.1 j72 x.2.2.2.2.1 n).1 then fwS dc dl ge su (ends ((abS dc pa hd2 (ends hd2 nl2) x.2.2.2.2.2.1 j72 x.2.2.2.2.1 n).2) (flS pa ge ((abS dc pa hd2 (ends hd2 nl2) x.2.2.2.2.2.1 j72 x.2.2.2.2.1 n).2) n n)) n else x.2.2.2.2.2.2)]) H := hP
              have hD : va_D A (fl [wR ct r a u sa, wT ct a n dc pa va dl ge su, wS ct (sa i) g dp2 lt2 ch2 ck2, wH ct g hd2 nl2 wi2, wS ct (sa j) h dp (if 0 < (abS dc pa hd2 (ends hd2 nl2) x.2.2.2.2.2.1 j72 x.2.2.2.2.1 n).1 then x.2.2.1 + nI 1 else x.2.2.1) (if 0 < (abS dc pa hd2 (ends hd2 nl2) x.2.2.2.2.2.1 j72 x.2.2.2.2.1 n).1 then va_up x.2.2.2.1 j72 (x.2.2.1 + nI 1) else x.2.2.2.1) ck, wH ct h (if 0 < (abS dc pa hd2 (ends hd2 nl2) x.2.2.2.2.2.1 j72 x.2.2.2.2.1 n).1 then stm ((abS dc pa hd2 (ends hd2 nl2) x.2.2.2.2.2.1 j72 x.2.2.2.2.1 n).2) (flS pa ge ((abS dc pa hd2 (ends hd2 nl2) x.2.2.2.2.2.1 j72 x.2.2.2.2.1 n).2) n n) ge dp n else (abS dc pa hd2 (ends hd2 nl2) x.2.2.2.2.2.1 j72 x.2.2.2.2.1 n).2) (if 0 < (abS dc pa hd2 (ends hd2 nl2) x.2.2.2.2.2.1 j72 x.2.2.2.2.1 n).1 then flS pa ge ((abS dc pa hd2 (ends hd2 nl2) x.2.2.2.2.2.1 j72 x.2.2.2.2.1 n).2) n n else x.2.2.2.2.2.1) (if 0 < (abS dc pa hd2 (ends hd2 nl2) x.2.2.2.2.2.1 j72 x.2.2.2.2.1 n).1 then fwS dc dl ge su (ends ((abS dc pa hd2 (ends hd2 nl2) x.2.2.2.2.2.1 j72 x.2.2.2.2.1 n).2) (flS pa ge ((abS dc pa hd2 (ends hd2 nl2) x.2.2.2.2.2.1 j72 x.2.2.2.2.1 n).2) n n)) n else x.2.2.2.2.2.2)]) := hD
              refine r_iaddN hx hb dX3_replicate_93 ?_
              refine lv_istore (lv' := [(7, .int (nI (x.1 + ((abS dc pa hd2 (ends hd2 nl2) x.2.2.2.2.2.1 j72 x.2.2.2.2.1 n).1)))), (9, .int (nI j72)), (8, .int (nI k)), (6, .int x.2.1), (5, .ref ((sa j) 0)), (4, .ref ((sa i) 0)), (0, .ref (r 0)), (1, .int (nI i)), (2, .int (nI j)), (3, .int (nI lim))]) hx hb dX3_replicate_94 hl (by decide) rfl (fun ls hl => ?_)
              refine lv_aload hx hb dX3_replicate_96 (lv_at hl 5 rfl) ?_
              refine va_getN (D := D) (ci := 1) (v := .ref ((sa i) 1)) (C := RX1) (T := TX1) (N := 5) hx hb hts (fun _ h => List.mem_cons_of_mem _ (List.mem_append_left _ (List.mem_append_left _ (List.mem_append_left _ (List.mem_append_left _ (List.mem_append_right _ h)))))) hown hK.1 hP 9 rfl rfl 3 (by decide) (va_Nw.use rfl (hK.2 _ (List.mem_of_getElem? (i := 5) rfl))) (fun _ h9 => h9) rfl dX3_replicate_98 ?_
              refine lv_iload hx hb dX3_replicate_101 (lv_at hl 1 rfl) ?_
              refine r_iald (j := j72) (v := ch2 j72) hx hb hK.1 hP 10 0 rfl rfl (by omega) (by first | decide | omega) rfl dX3_replicate_103 ?_
              refine lv_istore (lv' := [(6, .int (ch2 j72)), (7, .int (nI (x.1 + ((abS dc pa hd2 (ends hd2 nl2) x.2.2.2.2.2.1 j72 x.2.2.2.2.1 n).1)))), (9, .int (nI j72)), (8, .int (nI k)), (5, .ref ((sa j) 0)), (4, .ref ((sa i) 0)), (0, .ref (r 0)), (1, .int (nI i)), (2, .int (nI j)), (3, .int (nI lim))]) hx hb dX3_replicate_104 hl (by decide) rfl (fun ls hl => ?_)
              refine lv_iinc (v := nI (k + 1)) (lv' := [(8, .int (nI (k + 1))), (6, .int (ch2 j72)), (7, .int (nI (x.1 + ((abS dc pa hd2 (ends hd2 nl2) x.2.2.2.2.2.1 j72 x.2.2.2.2.1 n).1)))), (9, .int (nI j72)), (5, .ref ((sa j) 0)), (4, .ref ((sa i) 0)), (0, .ref (r 0)), (1, .int (nI i)), (2, .int (nI j)), (3, .int (nI lim))]) hx hb dX3_replicate_106 hl (k := 3) rfl (nI_1 _) (by decide) rfl (fun ls hl => ?_)
              refine lv_goto (tgt := 54) hx hb dX3_replicate_109 (by decide) ?_
              have hP : va_P D vwCl (fl [wR ct r a u sa, wT ct a n dc pa va dl ge su, wS ct (sa i) g dp2 lt2 ch2 ck2, wH ct g hd2 nl2 wi2, wS ct (sa j) h dp ((csg dc pa dl ge su n dp hd2 nl2 ch2 j72 x).2.2.1) ((csg dc pa dl ge su n dp hd2 nl2 ch2 j72 x).2.2.2.1) ck, wH ct h ((csg dc pa dl ge su n dp hd2 nl2 ch2 j72 x).2.2.2.2.1) ((csg dc pa dl ge su n dp hd2 nl2 ch2 j72 x).2.2.2.2.2.1) ((csg dc pa dl ge su n dp hd2 nl2 ch2 j72 x).2.2.2.2.2.2)]) H := hP
              have hD : va_D A (fl [wR ct r a u sa, wT ct a n dc pa va dl ge su, wS ct (sa i) g dp2 lt2 ch2 ck2, wH ct g hd2 nl2 wi2, wS ct (sa j) h dp ((csg dc pa dl ge su n dp hd2 nl2 ch2 j72 x).2.2.1) ((csg dc pa dl ge su n dp hd2 nl2 ch2 j72 x).2.2.2.1) ck, wH ct h ((csg dc pa dl ge su n dp hd2 nl2 ch2 j72 x).2.2.2.2.1) ((csg dc pa dl ge su n dp hd2 nl2 ch2 j72 x).2.2.2.2.2.1) ((csg dc pa dl ge su n dp hd2 nl2 ch2 j72 x).2.2.2.2.2.2)]) := hD
              exact ih54 (k + 1) (csg dc pa dl ge su n dp hd2 nl2 ch2 j72 x) (by first | assumption | omega) (by first | exact csg_nl hxl | exact hxl) (by first | (rw [hq] at c72; rw [csS_s c72, ← hq]; done) | (rw [hq] at c72; rw [csS_n c72, ← hq]; done)) (by omega) H locs ls hP hD hS (lv_sub hl [0, 2, 1, 4, 5, 6, 7, 8, 9] rfl)
      have hP : va_P D vwCl (fl [wR ct r a u sa, wT ct a n dc pa va dl ge su, wS ct (sa i) g dp2 lt2 ch2 ck2, wH ct g hd2 nl2 wi2, wS ct (sa j) h dp ((0, mnI (ck2 ((i * 3) + j)) (ck ((i * 3) + j)), lt, ch, hd, nl, wi).2.2.1) ((0, mnI (ck2 ((i * 3) + j)) (ck ((i * 3) + j)), lt, ch, hd, nl, wi).2.2.2.1) ck, wH ct h ((0, mnI (ck2 ((i * 3) + j)) (ck ((i * 3) + j)), lt, ch, hd, nl, wi).2.2.2.2.1) ((0, mnI (ck2 ((i * 3) + j)) (ck ((i * 3) + j)), lt, ch, hd, nl, wi).2.2.2.2.2.1) ((0, mnI (ck2 ((i * 3) + j)) (ck ((i * 3) + j)), lt, ch, hd, nl, wi).2.2.2.2.2.2)]) s.heap := hP
      have hD : va_D A (fl [wR ct r a u sa, wT ct a n dc pa va dl ge su, wS ct (sa i) g dp2 lt2 ch2 ck2, wH ct g hd2 nl2 wi2, wS ct (sa j) h dp ((0, mnI (ck2 ((i * 3) + j)) (ck ((i * 3) + j)), lt, ch, hd, nl, wi).2.2.1) ((0, mnI (ck2 ((i * 3) + j)) (ck ((i * 3) + j)), lt, ch, hd, nl, wi).2.2.2.1) ck, wH ct h ((0, mnI (ck2 ((i * 3) + j)) (ck ((i * 3) + j)), lt, ch, hd, nl, wi).2.2.2.2.1) ((0, mnI (ck2 ((i * 3) + j)) (ck ((i * 3) + j)), lt, ch, hd, nl, wi).2.2.2.2.2.1) ((0, mnI (ck2 ((i * 3) + j)) (ck ((i * 3) + j)), lt, ch, hd, nl, wi).2.2.2.2.2.2)]) := hD
      exact key54 ((lim - 0) + 1) 0 (0, mnI (ck2 ((i * 3) + j)) (ck ((i * 3) + j)), lt, ch, hd, nl, wi) (by first | assumption | omega) (hNl) (rfl) (Nat.lt_succ_self _) _ _ ls hP hD hS (lv_sub hl [0, 1, 2, 3, 4, 5, 6, 7, 8] rfl)
    · omega
