set_option maxHeartbeats 40000000 in
set_option maxRecDepth 100000 in
theorem cX3_winnerOfAll_ok (l : Launch) (D : va_G) (ct : Nat → ClassId) (r : Nat → Nat) (u : Nat → Nat) (sa : Nat → Nat → Nat) (a : Nat → Nat) (n : Nat) (dc : Nat → Nat) (pa : Nat → Option Nat) (va : Nat → Int32) (dl : Nat → Bool) (ge : Nat → Nat) (su : Nat → Int32) (hd : Nat → Bool) (nl : Nat → Nat) (wi : Nat → Option Nat) (dp0 : Int32) (lt0 : Int32) (ch0 : Nat → Int32) (ck0 : Nat → Int32) (h0 : Nat → Nat) (hd0 : Nat → Bool) (nl0 : Nat → Nat) (wi0 : Nat → Option Nat) (dp1 : Int32) (lt1 : Int32) (ch1 : Nat → Int32) (ck1 : Nat → Int32) (h1 : Nat → Nat) (hd1 : Nat → Bool) (nl1 : Nat → Nat) (wi1 : Nat → Option Nat) (dp2 : Int32) (lt2 : Int32) (ch2 : Nat → Int32) (ck2 : Nat → Int32) (h2 : Nat → Nat) (hd2 : Nat → Bool) (nl2 : Nat → Nat) (wi2 : Nat → Option Nat) (d : Nat) (un : Nat → Bool) (hn : n ≤ 150) (hTd : ∀ k, dc k < 4) (hTg : ∀ k, ge k ≤ 150) (hTp : ∀ k j, k < n → pa k = some j → j < k) (hd4 : d < 4) (hun : un = uni (uni (uni (rem hd 150) hd0 n) hd1 n) hd2 n) (sz : Nat) : Met l yX3_winnerOfAll wsX3_winnerOfAll ({ frames := 4, cells := 0, slots := 0, locals := 87 } : Room) (wrPc D ct [.ref (r 0), .int (nI d)] (fl [wR ct r a u sa, wT ct a n dc pa va dl ge su, wH ct u hd nl wi, wS ct (sa 0) h0 dp0 lt0 ch0 ck0, wH ct h0 hd0 nl0 wi0, wS ct (sa 1) h1 dp1 lt1 ch1 ck1, wH ct h1 hd1 nl1 wi1, wS ct (sa 2) h2 dp2 lt2 ch2 ck2, wH ct h2 hd2 nl2 wi2]) sz) (wqI D (eP ((fwS dc dl ge su (ends un (flS pa ge un n n)) n) d)) (fl [wR ct r a u sa, wT ct a n dc pa va dl ge su, wH ct u un (flS pa ge un n n) (fwS dc dl ge su (ends un (flS pa ge un n n)) n), wS ct (sa 0) h0 dp0 lt0 ch0 ck0, wH ct h0 hd0 nl0 wi0, wS ct (sa 1) h1 dp1 lt1 ch1 ck1, wH ct h1 hd1 nl1 wi1, wS ct (sa 2) h2 dp2 lt2 ch2 ck2, wH ct h2 hd2 nl2 wi2]) (va_A (fl [wR ct r a u sa, wT ct a n dc pa va dl ge su, wH ct u hd nl wi, wS ct (sa 0) h0 dp0 lt0 ch0 ck0, wH ct h0 hd0 nl0 wi0, wS ct (sa 1) h1 dp1 lt1 ch1 ck1, wH ct h1 hd1 nl1 wi1, wS ct (sa 2) h2 dp2 lt2 ch2 ck2, wH ct h2 hd2 nl2 wi2]) sz)) 0 0 (va_A (fl [wR ct r a u sa, wT ct a n dc pa va dl ge su, wH ct u hd nl wi, wS ct (sa 0) h0 dp0 lt0 ch0 ck0, wH ct h0 hd0 nl0 wi0, wS ct (sa 1) h1 dp1 lt1 ch1 ck1, wH ct h1 hd1 nl1 wi1, wS ct (sa 2) h2 dp2 lt2 ch2 ck2, wH ct h2 hd2 nl2 wi2]) sz) := by
  refine Met.ofW (cc := cX3_winnerOfAll) (maxL := 3) (ret := (some .int)) (by decide) rfl ?_
  intro p e s m args below meth c s₁ B hml hv
  obtain ⟨rfl, hsz, hP, hK, hD0⟩ := hv
  have hx := B.exec
  have hb := B.bytes
  have hr := B.returns
  have hts := atoms_spec (ws := wsX3_winnerOfAll) B.pre
  have hown : s.vm.findClass RX3 = some m.cls := findClass_of_methodNamed B.named
  have hlocks := B.notSynchronized
  subst hsz
  have hD := hD0.self (sz := s.heap.size)
  generalize hAe : va_A (fl [wR ct r a u sa, wT ct a n dc pa va dl ge su, wH ct u hd nl wi, wS ct (sa 0) h0 dp0 lt0 ch0 ck0, wH ct h0 hd0 nl0 wi0, wS ct (sa 1) h1 dp1 lt1 ch1 ck1, wH ct h1 hd1 nl1 wi1, wS ct (sa 2) h2 dp2 lt2 ch2 ck2, wH ct h2 hd2 nl2 wi2]) s.heap.size = A at hD ⊢
  have hA : ∀ q : Nat, s.heap.size ≤ q → A q := fun q h => by rw [← hAe]; exact Or.inr h
  have hS : va_S A s.heap s.heap [] := va_S.rf
  have hP : va_P D vwCl (fl [wR ct r a u sa, wT ct a n dc pa va dl ge su, wH ct u hd nl wi, wS ct (sa 0) h0 dp0 lt0 ch0 ck0, wH ct h0 hd0 nl0 wi0, wS ct (sa 1) h1 dp1 lt1 ch1 ck1, wH ct h1 hd1 nl1 wi1, wS ct (sa 2) h2 dp2 lt2 ch2 ck2, wH ct h2 hd2 nl2 wi2]) s.heap := hP
  clear hAe hD0
  have hl := lv_entry ([.ref (r 0), .int (nI d)]) (n := 3) (Nat.le_of_ble_eq_true rfl)
  rw [lg_entry_eq]
  generalize (lg_sl ([.ref (r 0), .int (nI d)]) ++ List.replicate (3 - (lg_sl ([.ref (r 0), .int (nI d)])).length) Slot.unset).toArray = ls at hl ⊢
  have hl : lv_has ls 3 [(0, .ref (r 0)), (1, .int (nI d))] := hl
  have hH0 : s.heap.size ≤ s.heap.size := Nat.le_refl _
  refine lv_aload_n hx hb dX3_winnerOfAll_0 rfl (lv_at hl 0 rfl) ?_
  refine lv_iload_n hx hb dX3_winnerOfAll_1 rfl (lv_at hl 1 rfl) ?_
  refine r_gRv (As := [.int (nI d)]) (rest := []) (Cs := [wR ct r a u sa]) ⟨hx, hb, hml, hown, hts⟩ (cX3_checkDocument_ok l D ct r u sa a d (by first | assumption | omega)) (fl1 _)  (cwV 1 hts gX3_winnerOfAll_X3_checkDocument rfl rfl rfl (by decide +kernel) ⟨Nat.le_of_ble_eq_true rfl, Nat.le_of_ble_eq_true rfl⟩) hK hP [0] rfl 0 3 rfl rfl rfl hl.1 rfl (Nat.le_of_ble_eq_true rfl) dX3_winnerOfAll_2 ⟨Nat.le_of_ble_eq_true rfl, Nat.le_of_ble_eq_true rfl⟩ ?_
  refine lv_aload_n hx hb dX3_winnerOfAll_5 rfl (lv_at hl 0 rfl) ?_
  refine va_get (D := D) (ci := 3) (v := .ref (u 0)) (C := RX3) (T := TX3) (N := 3) hx hb hts (fun _ h => List.mem_cons_of_mem _ (List.mem_append_left _ (List.mem_append_left _ (List.mem_append_left _ (List.mem_append_left _ (List.mem_append_right _ h)))))) hown hK.1 hP 0 rfl rfl 2 (by decide) (hts (.fieldLink RX3 25 "RevisionStores" "union" "LRevisionStores$Holding;") (List.mem_of_getElem? (i := 1) rfl)) (fun _ h9 => h9) rfl dX3_winnerOfAll_6 ?_
  refine r_gVv (As := []) (rest := []) (Cs := [wH ct u hd nl wi]) (C1 := [wH ct u (rem hd 150) nl wi]) ⟨hx, hb, hml, hown, hts⟩ (cX0_removeAll_ok l D ct u hd nl wi  s.heap.size) (fl1 _) (fl1 _) (cwV 0 hts gX3_winnerOfAll_X0_removeAll rfl rfl rfl (by decide +kernel) ⟨Nat.le_of_ble_eq_true rfl, Nat.le_of_ble_eq_true rfl⟩) hK hP hD hS hA [2] rfl rfl rfl 0 0 rfl rfl rfl hl.1 rfl (Nat.le_of_ble_eq_true rfl) dX3_winnerOfAll_9 ⟨Nat.le_of_ble_eq_true rfl, Nat.le_of_ble_eq_true rfl⟩ (fun H locs hP hD hS _ _ => ?_)
  have hP : va_P D vwCl (fl [wR ct r a u sa, wT ct a n dc pa va dl ge su, wH ct u (rem hd 150) nl wi, wS ct (sa 0) h0 dp0 lt0 ch0 ck0, wH ct h0 hd0 nl0 wi0, wS ct (sa 1) h1 dp1 lt1 ch1 ck1, wH ct h1 hd1 nl1 wi1, wS ct (sa 2) h2 dp2 lt2 ch2 ck2, wH ct h2 hd2 nl2 wi2]) H := hP
  have hD : va_D A (fl [wR ct r a u sa, wT ct a n dc pa va dl ge su, wH ct u (rem hd 150) nl wi, wS ct (sa 0) h0 dp0 lt0 ch0 ck0, wH ct h0 hd0 nl0 wi0, wS ct (sa 1) h1 dp1 lt1 ch1 ck1, wH ct h1 hd1 nl1 wi1, wS ct (sa 2) h2 dp2 lt2 ch2 ck2, wH ct h2 hd2 nl2 wi2]) := hD
  refine lv_iconst (v := nI 0) hx hb dX3_winnerOfAll_12 (by decide) ?_
  refine lv_istore_n (lv' := [(2, .int (nI 0)), (0, .ref (r 0)), (1, .int (nI d))]) hx hb dX3_winnerOfAll_13 rfl hl (by decide) rfl (fun ls hl => ?_)
  refine lv_iload_n hx hb dX3_winnerOfAll_14 rfl (lv_at hl 0 rfl) ?_
  refine lv_iconst (v := nI 3) hx hb dX3_winnerOfAll_15 (by decide) ?_
  refine r_icmp_geN hx hb (x := 0) (y := 3) (by decide) (by decide) (tgt := 45) dX3_winnerOfAll_16 (by decide) (fun c16 => absurd c16 (by decide)) (fun c16 => ?_)
  refine lv_aload_n hx hb dX3_winnerOfAll_19 rfl (lv_at hl 1 rfl) ?_
  refine va_get (D := D) (ci := 3) (v := .ref (u 0)) (C := RX3) (T := TX3) (N := 3) hx hb hts (fun _ h => List.mem_cons_of_mem _ (List.mem_append_left _ (List.mem_append_left _ (List.mem_append_left _ (List.mem_append_left _ (List.mem_append_right _ h)))))) hown hK.1 hP 0 rfl rfl 2 (by decide) (hts (.fieldLink RX3 25 "RevisionStores" "union" "LRevisionStores$Holding;") (List.mem_of_getElem? (i := 1) rfl)) (fun _ h9 => h9) rfl dX3_winnerOfAll_20 ?_
  refine lv_aload_n hx hb dX3_winnerOfAll_23 rfl (lv_at hl 1 rfl) ?_
  refine va_get (D := D) (ci := 3) (v := .ref (a 0)) (C := RX3) (T := TX3) (N := 3) hx hb hts (fun _ h => List.mem_cons_of_mem _ (List.mem_append_left _ (List.mem_append_left _ (List.mem_append_left _ (List.mem_append_left _ (List.mem_append_right _ h)))))) hown hK.1 hP 0 rfl rfl 0 (by decide) (hts (.fieldLink RX3 10 "RevisionStores" "tree" "LRevisionStores$Tree;") (List.mem_of_getElem? (i := 2) rfl)) (fun _ h9 => h9) rfl dX3_winnerOfAll_24 ?_
  refine lv_aload_n hx hb dX3_winnerOfAll_27 rfl (lv_at hl 1 rfl) ?_
  refine va_get (D := D) (ci := 3) (v := .ref (r 1)) (C := RX3) (T := TX3) (N := 3) hx hb hts (fun _ h => List.mem_cons_of_mem _ (List.mem_append_left _ (List.mem_append_left _ (List.mem_append_left _ (List.mem_append_left _ (List.mem_append_right _ h)))))) hown hK.1 hP 0 rfl rfl 1 (by decide) (hts (.fieldLink RX3 18 "RevisionStores" "stores" "[LRevisionStores$Store;") (List.mem_of_getElem? (i := 3) rfl)) (fun _ h9 => h9) rfl dX3_winnerOfAll_28 ?_
  refine lv_iload_n hx hb dX3_winnerOfAll_31 rfl (lv_at hl 0 rfl) ?_
  refine r_aald (j := 0) (v := sa 0 0) hx hb hK.1 hP 1 2 rfl rfl (by omega) (by decide) rfl dX3_winnerOfAll_32 ?_
  refine va_getN (D := D) (ci := 1) (v := .ref (h0 0)) (C := RX1) (T := TX1) (N := 5) hx hb hts (fun _ h => List.mem_cons_of_mem _ (List.mem_append_left _ (List.mem_append_left _ (List.mem_append_left _ (List.mem_append_right _ h))))) hown hK.1 hP 13 rfl rfl 0 (by decide) (va_Nw.use rfl (hK.2 _ (List.mem_of_getElem? (i := 4) rfl))) (fun _ h9 => h9) rfl dX3_winnerOfAll_33 ?_
  refine r_gVv (As := [.ref (a 0), .ref (h0 0)]) (rest := []) (Cs := [wH ct u (rem hd 150) nl wi, wT ct a n dc pa va dl ge su, wH ct h0 hd0 nl0 wi0]) (C1 := [wH ct u (uni (rem hd 150) hd0 n) nl wi, wT ct a n dc pa va dl ge su, wH ct h0 hd0 nl0 wi0]) ⟨hx, hb, hml, hown, hts⟩ (cX0_addAll_ok l D ct u (rem hd 150) nl wi a n dc pa va dl ge su h0 hd0 nl0 wi0 (by first | assumption | omega) H.size) (fl3 _ _ _) (fl3 _ _ _) (cwV 2 hts gX3_winnerOfAll_X0_addAll rfl rfl rfl (by decide +kernel) ⟨Nat.le_of_ble_eq_true rfl, Nat.le_of_ble_eq_true rfl⟩) hK hP hD hS hA [2, 1, 4] rfl rfl rfl 0 0 rfl rfl rfl hl.1 rfl (Nat.le_of_ble_eq_true rfl) dX3_winnerOfAll_36 ⟨Nat.le_of_ble_eq_true rfl, Nat.le_of_ble_eq_true rfl⟩ (fun H locs hP hD hS _ _ => ?_)
  have hP : va_P D vwCl (fl [wR ct r a u sa, wT ct a n dc pa va dl ge su, wH ct u (uni (rem hd 150) hd0 n) nl wi, wS ct (sa 0) h0 dp0 lt0 ch0 ck0, wH ct h0 hd0 nl0 wi0, wS ct (sa 1) h1 dp1 lt1 ch1 ck1, wH ct h1 hd1 nl1 wi1, wS ct (sa 2) h2 dp2 lt2 ch2 ck2, wH ct h2 hd2 nl2 wi2]) H := hP
  have hD : va_D A (fl [wR ct r a u sa, wT ct a n dc pa va dl ge su, wH ct u (uni (rem hd 150) hd0 n) nl wi, wS ct (sa 0) h0 dp0 lt0 ch0 ck0, wH ct h0 hd0 nl0 wi0, wS ct (sa 1) h1 dp1 lt1 ch1 ck1, wH ct h1 hd1 nl1 wi1, wS ct (sa 2) h2 dp2 lt2 ch2 ck2, wH ct h2 hd2 nl2 wi2]) := hD
  refine lv_iinc (v := nI 1) (lv' := [(2, .int (nI 1)), (0, .ref (r 0)), (1, .int (nI d))]) hx hb dX3_winnerOfAll_39 hl (k := 0) rfl (nI_1 0) (by decide) rfl (fun ls hl => ?_)
  refine lv_goto (tgt := 14) hx hb dX3_winnerOfAll_42 (by decide) ?_
  refine lv_iload_n hx hb dX3_winnerOfAll_14 rfl (lv_at hl 0 rfl) ?_
  refine lv_iconst (v := nI 3) hx hb dX3_winnerOfAll_15 (by decide) ?_
  refine r_icmp_geN hx hb (x := 1) (y := 3) (by decide) (by decide) (tgt := 45) dX3_winnerOfAll_16 (by decide) (fun c16 => absurd c16 (by decide)) (fun c16 => ?_)
  refine lv_aload_n hx hb dX3_winnerOfAll_19 rfl (lv_at hl 1 rfl) ?_
  refine va_get (D := D) (ci := 3) (v := .ref (u 0)) (C := RX3) (T := TX3) (N := 3) hx hb hts (fun _ h => List.mem_cons_of_mem _ (List.mem_append_left _ (List.mem_append_left _ (List.mem_append_left _ (List.mem_append_left _ (List.mem_append_right _ h)))))) hown hK.1 hP 0 rfl rfl 2 (by decide) (hts (.fieldLink RX3 25 "RevisionStores" "union" "LRevisionStores$Holding;") (List.mem_of_getElem? (i := 1) rfl)) (fun _ h9 => h9) rfl dX3_winnerOfAll_20 ?_
  refine lv_aload_n hx hb dX3_winnerOfAll_23 rfl (lv_at hl 1 rfl) ?_
  refine va_get (D := D) (ci := 3) (v := .ref (a 0)) (C := RX3) (T := TX3) (N := 3) hx hb hts (fun _ h => List.mem_cons_of_mem _ (List.mem_append_left _ (List.mem_append_left _ (List.mem_append_left _ (List.mem_append_left _ (List.mem_append_right _ h)))))) hown hK.1 hP 0 rfl rfl 0 (by decide) (hts (.fieldLink RX3 10 "RevisionStores" "tree" "LRevisionStores$Tree;") (List.mem_of_getElem? (i := 2) rfl)) (fun _ h9 => h9) rfl dX3_winnerOfAll_24 ?_
  refine lv_aload_n hx hb dX3_winnerOfAll_27 rfl (lv_at hl 1 rfl) ?_
  refine va_get (D := D) (ci := 3) (v := .ref (r 1)) (C := RX3) (T := TX3) (N := 3) hx hb hts (fun _ h => List.mem_cons_of_mem _ (List.mem_append_left _ (List.mem_append_left _ (List.mem_append_left _ (List.mem_append_left _ (List.mem_append_right _ h)))))) hown hK.1 hP 0 rfl rfl 1 (by decide) (hts (.fieldLink RX3 18 "RevisionStores" "stores" "[LRevisionStores$Store;") (List.mem_of_getElem? (i := 3) rfl)) (fun _ h9 => h9) rfl dX3_winnerOfAll_28 ?_
  refine lv_iload_n hx hb dX3_winnerOfAll_31 rfl (lv_at hl 0 rfl) ?_
  refine r_aald (j := 1) (v := sa 1 0) hx hb hK.1 hP 1 2 rfl rfl (by omega) (by decide) rfl dX3_winnerOfAll_32 ?_
  refine va_getN (D := D) (ci := 1) (v := .ref (h1 0)) (C := RX1) (T := TX1) (N := 5) hx hb hts (fun _ h => List.mem_cons_of_mem _ (List.mem_append_left _ (List.mem_append_left _ (List.mem_append_left _ (List.mem_append_right _ h))))) hown hK.1 hP 20 rfl rfl 0 (by decide) (va_Nw.use rfl (hK.2 _ (List.mem_of_getElem? (i := 4) rfl))) (fun _ h9 => h9) rfl dX3_winnerOfAll_33 ?_
  refine r_gVv (As := [.ref (a 0), .ref (h1 0)]) (rest := []) (Cs := [wH ct u (uni (rem hd 150) hd0 n) nl wi, wT ct a n dc pa va dl ge su, wH ct h1 hd1 nl1 wi1]) (C1 := [wH ct u (uni (uni (rem hd 150) hd0 n) hd1 n) nl wi, wT ct a n dc pa va dl ge su, wH ct h1 hd1 nl1 wi1]) ⟨hx, hb, hml, hown, hts⟩ (cX0_addAll_ok l D ct u (uni (rem hd 150) hd0 n) nl wi a n dc pa va dl ge su h1 hd1 nl1 wi1 (by first | assumption | omega) H.size) (fl3 _ _ _) (fl3 _ _ _) (cwV 2 hts gX3_winnerOfAll_X0_addAll rfl rfl rfl (by decide +kernel) ⟨Nat.le_of_ble_eq_true rfl, Nat.le_of_ble_eq_true rfl⟩) hK hP hD hS hA [2, 1, 6] rfl rfl rfl 0 0 rfl rfl rfl hl.1 rfl (Nat.le_of_ble_eq_true rfl) dX3_winnerOfAll_36 ⟨Nat.le_of_ble_eq_true rfl, Nat.le_of_ble_eq_true rfl⟩ (fun H locs hP hD hS _ _ => ?_)
  have hP : va_P D vwCl (fl [wR ct r a u sa, wT ct a n dc pa va dl ge su, wH ct u (uni (uni (rem hd 150) hd0 n) hd1 n) nl wi, wS ct (sa 0) h0 dp0 lt0 ch0 ck0, wH ct h0 hd0 nl0 wi0, wS ct (sa 1) h1 dp1 lt1 ch1 ck1, wH ct h1 hd1 nl1 wi1, wS ct (sa 2) h2 dp2 lt2 ch2 ck2, wH ct h2 hd2 nl2 wi2]) H := hP
  have hD : va_D A (fl [wR ct r a u sa, wT ct a n dc pa va dl ge su, wH ct u (uni (uni (rem hd 150) hd0 n) hd1 n) nl wi, wS ct (sa 0) h0 dp0 lt0 ch0 ck0, wH ct h0 hd0 nl0 wi0, wS ct (sa 1) h1 dp1 lt1 ch1 ck1, wH ct h1 hd1 nl1 wi1, wS ct (sa 2) h2 dp2 lt2 ch2 ck2, wH ct h2 hd2 nl2 wi2]) := hD
  refine lv_iinc (v := nI 2) (lv' := [(2, .int (nI 2)), (0, .ref (r 0)), (1, .int (nI d))]) hx hb dX3_winnerOfAll_39 hl (k := 0) rfl (nI_1 1) (by decide) rfl (fun ls hl => ?_)
  refine lv_goto (tgt := 14) hx hb dX3_winnerOfAll_42 (by decide) ?_
  refine lv_iload_n hx hb dX3_winnerOfAll_14 rfl (lv_at hl 0 rfl) ?_
  refine lv_iconst (v := nI 3) hx hb dX3_winnerOfAll_15 (by decide) ?_
  refine r_icmp_geN hx hb (x := 2) (y := 3) (by decide) (by decide) (tgt := 45) dX3_winnerOfAll_16 (by decide) (fun c16 => absurd c16 (by decide)) (fun c16 => ?_)
  refine lv_aload_n hx hb dX3_winnerOfAll_19 rfl (lv_at hl 1 rfl) ?_
  refine va_get (D := D) (ci := 3) (v := .ref (u 0)) (C := RX3) (T := TX3) (N := 3) hx hb hts (fun _ h => List.mem_cons_of_mem _ (List.mem_append_left _ (List.mem_append_left _ (List.mem_append_left _ (List.mem_append_left _ (List.mem_append_right _ h)))))) hown hK.1 hP 0 rfl rfl 2 (by decide) (hts (.fieldLink RX3 25 "RevisionStores" "union" "LRevisionStores$Holding;") (List.mem_of_getElem? (i := 1) rfl)) (fun _ h9 => h9) rfl dX3_winnerOfAll_20 ?_
  refine lv_aload_n hx hb dX3_winnerOfAll_23 rfl (lv_at hl 1 rfl) ?_
  refine va_get (D := D) (ci := 3) (v := .ref (a 0)) (C := RX3) (T := TX3) (N := 3) hx hb hts (fun _ h => List.mem_cons_of_mem _ (List.mem_append_left _ (List.mem_append_left _ (List.mem_append_left _ (List.mem_append_left _ (List.mem_append_right _ h)))))) hown hK.1 hP 0 rfl rfl 0 (by decide) (hts (.fieldLink RX3 10 "RevisionStores" "tree" "LRevisionStores$Tree;") (List.mem_of_getElem? (i := 2) rfl)) (fun _ h9 => h9) rfl dX3_winnerOfAll_24 ?_
  refine lv_aload_n hx hb dX3_winnerOfAll_27 rfl (lv_at hl 1 rfl) ?_
  refine va_get (D := D) (ci := 3) (v := .ref (r 1)) (C := RX3) (T := TX3) (N := 3) hx hb hts (fun _ h => List.mem_cons_of_mem _ (List.mem_append_left _ (List.mem_append_left _ (List.mem_append_left _ (List.mem_append_left _ (List.mem_append_right _ h)))))) hown hK.1 hP 0 rfl rfl 1 (by decide) (hts (.fieldLink RX3 18 "RevisionStores" "stores" "[LRevisionStores$Store;") (List.mem_of_getElem? (i := 3) rfl)) (fun _ h9 => h9) rfl dX3_winnerOfAll_28 ?_
  refine lv_iload_n hx hb dX3_winnerOfAll_31 rfl (lv_at hl 0 rfl) ?_
  refine r_aald (j := 2) (v := sa 2 0) hx hb hK.1 hP 1 2 rfl rfl (by omega) (by decide) rfl dX3_winnerOfAll_32 ?_
  refine va_getN (D := D) (ci := 1) (v := .ref (h2 0)) (C := RX1) (T := TX1) (N := 5) hx hb hts (fun _ h => List.mem_cons_of_mem _ (List.mem_append_left _ (List.mem_append_left _ (List.mem_append_left _ (List.mem_append_right _ h))))) hown hK.1 hP 27 rfl rfl 0 (by decide) (va_Nw.use rfl (hK.2 _ (List.mem_of_getElem? (i := 4) rfl))) (fun _ h9 => h9) rfl dX3_winnerOfAll_33 ?_
  refine r_gVv (As := [.ref (a 0), .ref (h2 0)]) (rest := []) (Cs := [wH ct u (uni (uni (rem hd 150) hd0 n) hd1 n) nl wi, wT ct a n dc pa va dl ge su, wH ct h2 hd2 nl2 wi2]) (C1 := [wH ct u (uni (uni (uni (rem hd 150) hd0 n) hd1 n) hd2 n) nl wi, wT ct a n dc pa va dl ge su, wH ct h2 hd2 nl2 wi2]) ⟨hx, hb, hml, hown, hts⟩ (cX0_addAll_ok l D ct u (uni (uni (rem hd 150) hd0 n) hd1 n) nl wi a n dc pa va dl ge su h2 hd2 nl2 wi2 (by first | assumption | omega) H.size) (fl3 _ _ _) (fl3 _ _ _) (cwV 2 hts gX3_winnerOfAll_X0_addAll rfl rfl rfl (by decide +kernel) ⟨Nat.le_of_ble_eq_true rfl, Nat.le_of_ble_eq_true rfl⟩) hK hP hD hS hA [2, 1, 8] rfl rfl rfl 0 0 rfl rfl rfl hl.1 rfl (Nat.le_of_ble_eq_true rfl) dX3_winnerOfAll_36 ⟨Nat.le_of_ble_eq_true rfl, Nat.le_of_ble_eq_true rfl⟩ (fun H locs hP hD hS _ _ => ?_)
  have hP : va_P D vwCl (fl [wR ct r a u sa, wT ct a n dc pa va dl ge su, wH ct u (uni (uni (uni (rem hd 150) hd0 n) hd1 n) hd2 n) nl wi, wS ct (sa 0) h0 dp0 lt0 ch0 ck0, wH ct h0 hd0 nl0 wi0, wS ct (sa 1) h1 dp1 lt1 ch1 ck1, wH ct h1 hd1 nl1 wi1, wS ct (sa 2) h2 dp2 lt2 ch2 ck2, wH ct h2 hd2 nl2 wi2]) H := hP
  have hD : va_D A (fl [wR ct r a u sa, wT ct a n dc pa va dl ge su, wH ct u (uni (uni (uni (rem hd 150) hd0 n) hd1 n) hd2 n) nl wi, wS ct (sa 0) h0 dp0 lt0 ch0 ck0, wH ct h0 hd0 nl0 wi0, wS ct (sa 1) h1 dp1 lt1 ch1 ck1, wH ct h1 hd1 nl1 wi1, wS ct (sa 2) h2 dp2 lt2 ch2 ck2, wH ct h2 hd2 nl2 wi2]) := hD
  refine lv_iinc (v := nI 3) (lv' := [(2, .int (nI 3)), (0, .ref (r 0)), (1, .int (nI d))]) hx hb dX3_winnerOfAll_39 hl (k := 0) rfl (nI_1 2) (by decide) rfl (fun ls hl => ?_)
  refine lv_goto (tgt := 14) hx hb dX3_winnerOfAll_42 (by decide) ?_
  refine lv_iload_n hx hb dX3_winnerOfAll_14 rfl (lv_at hl 0 rfl) ?_
  refine lv_iconst (v := nI 3) hx hb dX3_winnerOfAll_15 (by decide) ?_
  refine r_icmp_geN hx hb (x := 3) (y := 3) (by decide) (by decide) (tgt := 45) dX3_winnerOfAll_16 (by decide) (fun c16 => ?_) (fun c16 => absurd c16 (by decide))
  have e9 : (uni (uni (uni (rem hd 150) hd0 n) hd1 n) hd2 n) = un := hun.symm
  have hP := (congrArg (fun z9 => va_P D vwCl (fl [wR ct r a u sa, wT ct a n dc pa va dl ge su, wH ct u z9 nl wi, wS ct (sa 0) h0 dp0 lt0 ch0 ck0, wH ct h0 hd0 nl0 wi0, wS ct (sa 1) h1 dp1 lt1 ch1 ck1, wH ct h1 hd1 nl1 wi1, wS ct (sa 2) h2 dp2 lt2 ch2 ck2, wH ct h2 hd2 nl2 wi2]) H) e9).mp hP
  have hD := (congrArg (fun z9 => va_D A (fl [wR ct r a u sa, wT ct a n dc pa va dl ge su, wH ct u z9 nl wi, wS ct (sa 0) h0 dp0 lt0 ch0 ck0, wH ct h0 hd0 nl0 wi0, wS ct (sa 1) h1 dp1 lt1 ch1 ck1, wH ct h1 hd1 nl1 wi1, wS ct (sa 2) h2 dp2 lt2 ch2 ck2, wH ct h2 hd2 nl2 wi2])) e9).mp hD
  have hP : va_P D vwCl (fl [wR ct r a u sa, wT ct a n dc pa va dl ge su, wH ct u un nl wi, wS ct (sa 0) h0 dp0 lt0 ch0 ck0, wH ct h0 hd0 nl0 wi0, wS ct (sa 1) h1 dp1 lt1 ch1 ck1, wH ct h1 hd1 nl1 wi1, wS ct (sa 2) h2 dp2 lt2 ch2 ck2, wH ct h2 hd2 nl2 wi2]) H := hP
  have hD : va_D A (fl [wR ct r a u sa, wT ct a n dc pa va dl ge su, wH ct u un nl wi, wS ct (sa 0) h0 dp0 lt0 ch0 ck0, wH ct h0 hd0 nl0 wi0, wS ct (sa 1) h1 dp1 lt1 ch1 ck1, wH ct h1 hd1 nl1 wi1, wS ct (sa 2) h2 dp2 lt2 ch2 ck2, wH ct h2 hd2 nl2 wi2]) := hD
  refine lv_aload_n hx hb dX3_winnerOfAll_45 rfl (lv_at hl 1 rfl) ?_
  refine va_get (D := D) (ci := 3) (v := .ref (u 0)) (C := RX3) (T := TX3) (N := 3) hx hb hts (fun _ h => List.mem_cons_of_mem _ (List.mem_append_left _ (List.mem_append_left _ (List.mem_append_left _ (List.mem_append_left _ (List.mem_append_right _ h)))))) hown hK.1 hP 0 rfl rfl 2 (by decide) (hts (.fieldLink RX3 25 "RevisionStores" "union" "LRevisionStores$Holding;") (List.mem_of_getElem? (i := 1) rfl)) (fun _ h9 => h9) rfl dX3_winnerOfAll_46 ?_
  refine lv_aload_n hx hb dX3_winnerOfAll_49 rfl (lv_at hl 1 rfl) ?_
  refine va_get (D := D) (ci := 3) (v := .ref (a 0)) (C := RX3) (T := TX3) (N := 3) hx hb hts (fun _ h => List.mem_cons_of_mem _ (List.mem_append_left _ (List.mem_append_left _ (List.mem_append_left _ (List.mem_append_left _ (List.mem_append_right _ h)))))) hown hK.1 hP 0 rfl rfl 0 (by decide) (hts (.fieldLink RX3 10 "RevisionStores" "tree" "LRevisionStores$Tree;") (List.mem_of_getElem? (i := 2) rfl)) (fun _ h9 => h9) rfl dX3_winnerOfAll_50 ?_
  refine r_gVv (As := [.ref (a 0)]) (rest := []) (Cs := [wH ct u un nl wi, wT ct a n dc pa va dl ge su]) (C1 := [wH ct u un (flS pa ge un n n) (fwS dc dl ge su (ends un (flS pa ge un n n)) n), wT ct a n dc pa va dl ge su]) ⟨hx, hb, hml, hown, hts⟩ (cX0_survey_ok l D ct u un nl wi a n dc pa va dl ge su (by first | assumption | omega) (by first | assumption | omega) (by first | assumption | omega) (by first | assumption | omega) H.size) (fl2 _ _) (fl2 _ _) (cwV 1 hts gX3_winnerOfAll_X0_survey rfl rfl rfl (by decide +kernel) ⟨Nat.le_of_ble_eq_true rfl, Nat.le_of_ble_eq_true rfl⟩) hK hP hD hS hA [2, 1] rfl rfl rfl 0 0 rfl rfl rfl hl.1 rfl (Nat.le_of_ble_eq_true rfl) dX3_winnerOfAll_53 ⟨Nat.le_of_ble_eq_true rfl, Nat.le_of_ble_eq_true rfl⟩ (fun H locs hP hD hS _ _ => ?_)
  have hP : va_P D vwCl (fl [wR ct r a u sa, wT ct a n dc pa va dl ge su, wH ct u un (flS pa ge un n n) (fwS dc dl ge su (ends un (flS pa ge un n n)) n), wS ct (sa 0) h0 dp0 lt0 ch0 ck0, wH ct h0 hd0 nl0 wi0, wS ct (sa 1) h1 dp1 lt1 ch1 ck1, wH ct h1 hd1 nl1 wi1, wS ct (sa 2) h2 dp2 lt2 ch2 ck2, wH ct h2 hd2 nl2 wi2]) H := hP
  have hD : va_D A (fl [wR ct r a u sa, wT ct a n dc pa va dl ge su, wH ct u un (flS pa ge un n n) (fwS dc dl ge su (ends un (flS pa ge un n n)) n), wS ct (sa 0) h0 dp0 lt0 ch0 ck0, wH ct h0 hd0 nl0 wi0, wS ct (sa 1) h1 dp1 lt1 ch1 ck1, wH ct h1 hd1 nl1 wi1, wS ct (sa 2) h2 dp2 lt2 ch2 ck2, wH ct h2 hd2 nl2 wi2]) := hD
  refine lv_aload_n hx hb dX3_winnerOfAll_56 rfl (lv_at hl 1 rfl) ?_
  refine va_get (D := D) (ci := 3) (v := .ref (u 0)) (C := RX3) (T := TX3) (N := 3) hx hb hts (fun _ h => List.mem_cons_of_mem _ (List.mem_append_left _ (List.mem_append_left _ (List.mem_append_left _ (List.mem_append_left _ (List.mem_append_right _ h)))))) hown hK.1 hP 0 rfl rfl 2 (by decide) (hts (.fieldLink RX3 25 "RevisionStores" "union" "LRevisionStores$Holding;") (List.mem_of_getElem? (i := 1) rfl)) (fun _ h9 => h9) rfl dX3_winnerOfAll_57 ?_
  refine va_getN (D := D) (ci := 0) (v := .ref (u 3)) (C := RX0) (T := TX0) (N := 3) hx hb hts (fun _ h => List.mem_cons_of_mem _ (List.mem_append_left _ (List.mem_append_left _ (List.mem_append_right _ h)))) hown hK.1 hP 9 rfl rfl 2 (by decide) (va_Nw.use rfl (hK.2 _ (List.mem_of_getElem? (i := 15) rfl))) (fun _ h9 => h9) rfl dX3_winnerOfAll_60 ?_
  refine lv_iload_n hx hb dX3_winnerOfAll_63 rfl (lv_at hl 2 rfl) ?_
  refine r_iald (j := d) (v := eP ((fwS dc dl ge su (ends un (flS pa ge un n n)) n) d)) hx hb hK.1 hP 12 0 rfl rfl (by omega) (by first | decide | omega) rfl dX3_winnerOfAll_64 ?_
  exact W.iret hx hb hr (fun t ht hW => ⟨⟨_, (), rfl, rfl, by show va_P D vwCl _ t.heap; rw [ht]; exact hP⟩, hS.F ht⟩) hS.2.2 dX3_winnerOfAll_65
set_option maxHeartbeats 8000000 in
set_option maxRecDepth 100000 in
theorem cX3_count_ok (l : Launch) (D : va_G) (ct : Nat → ClassId) (r : Nat → Nat) (u : Nat → Nat) (sa : Nat → Nat → Nat) (a : Nat → Nat) (n : Nat) (dc : Nat → Nat) (pa : Nat → Option Nat) (va : Nat → Int32) (dl : Nat → Bool) (ge : Nat → Nat) (su : Nat → Int32) (dp : Int32) (lt : Int32) (ch : Nat → Int32) (ck : Nat → Int32) (h : Nat → Nat) (hd : Nat → Bool) (nl : Nat → Nat) (wi : Nat → Option Nat) (i : Nat) (lo : Int32) (hi9 : Int32) (hn : n ≤ 150) (hWi : ∀ d j, wi d = some j → j < n) (hi : i < 3) : Met l yX3_count wsX3_count ({ frames := 1, cells := 0, slots := 0, locals := 23 } : Room) (roPc D ct [.ref (r 0), .int (nI i), .int lo, .int hi9] (wR ct r a u sa ++ wT ct a n dc pa va dl ge su ++ wS ct (sa i) h dp lt ch ck ++ wH ct h hd nl wi)) (rqI (nI (fct (ctC (shv dl va wi) lo hi9) 4))) 0 0 (fun _ => False) := by
  refine Met.ofW (cc := cX3_count) (maxL := 8) (ret := (some .int)) (by decide) rfl ?_
  intro p e s m args below meth c s₁ B hml hv
  obtain ⟨rfl, hP, hK⟩ := hv
  have hx := B.exec
  have hb := B.bytes
  have hr := B.returns
  have hts := atoms_spec (ws := wsX3_count) B.pre
  have hown : s.vm.findClass RX3 = some m.cls := findClass_of_methodNamed B.named
  have hlocks := B.notSynchronized
  have hl := lv_entry ([.ref (r 0), .int (nI i), .int lo, .int hi9]) (n := 8) (Nat.le_of_ble_eq_true rfl)
  rw [lg_entry_eq]
  generalize (lg_sl ([.ref (r 0), .int (nI i), .int lo, .int hi9]) ++ List.replicate (8 - (lg_sl ([.ref (r 0), .int (nI i), .int lo, .int hi9])).length) Slot.unset).toArray = ls at hl ⊢
  have hl : lv_has ls 8 [(0, .ref (r 0)), (1, .int (nI i)), (2, .int lo), (3, .int hi9)] := hl
  refine lv_aload_n hx hb dX3_count_0 rfl (lv_at hl 0 rfl) ?_
  refine lv_iload_n hx hb dX3_count_1 rfl (lv_at hl 1 rfl) ?_
  refine r_cVr (As := [.int (nI i)]) (rest := []) ⟨hx, hb, hml, hown, hts⟩ (cX3_storeAt_ok l D ct r u sa a i (by first | assumption | omega)) (cwV 1 hts gX3_count_X3_storeAt rfl rfl rfl (by decide +kernel) ⟨Nat.le_of_ble_eq_true rfl, Nat.le_of_ble_eq_true rfl⟩) hK (hP.sub (ws' := wR ct r a u sa) [0, 1] rfl) 0 3 rfl rfl rfl hl.1 rfl (Nat.le_of_ble_eq_true rfl) dX3_count_2 ⟨Nat.le_of_ble_eq_true rfl, Nat.le_of_ble_eq_true rfl⟩ ?_
  refine va_getN (D := D) (ci := 1) (v := .ref (h 0)) (C := RX1) (T := TX1) (N := 5) hx hb hts (fun _ h => List.mem_cons_of_mem _ (List.mem_append_left _ (List.mem_append_left _ (List.mem_append_left _ (List.mem_append_left _ (List.mem_append_right _ h)))))) hown hK.1 hP 9 rfl rfl 0 (by decide) (va_Nw.use rfl (hK.2 _ (List.mem_of_getElem? (i := 4) rfl))) (fun _ h9 => h9) rfl dX3_count_5 ?_
  refine lv_astore (lv' := [(4, .ref (h 0)), (0, .ref (r 0)), (1, .int (nI i)), (2, .int lo), (3, .int hi9)]) hx hb dX3_count_8 hl (by decide) rfl (fun ls hl => ?_)
  refine lv_iconst (v := nI 0) hx hb dX3_count_10 (by decide) ?_
  refine lv_istore (lv' := [(5, .int (nI 0)), (4, .ref (h 0)), (0, .ref (r 0)), (1, .int (nI i)), (2, .int lo), (3, .int hi9)]) hx hb dX3_count_11 hl (by decide) rfl (fun ls hl => ?_)
  refine lv_iconst (v := nI 0) hx hb dX3_count_13 (by decide) ?_
  refine lv_istore (lv' := [(6, .int (nI 0)), (5, .int (nI 0)), (4, .ref (h 0)), (0, .ref (r 0)), (1, .int (nI i)), (2, .int lo), (3, .int hi9)]) hx hb dX3_count_14 hl (by decide) rfl (fun ls hl => ?_)
  have key16 : ∀ (d16 : Nat) (q : Nat) (hq : q ≤ 4), 4 - q < d16 → ∀  (ls : Array Slot), lv_has ls 8 [(6, .int (nI q)), (5, .int (nI (fct (ctC (shv dl va wi) lo hi9) q))), (4, .ref (h 0)), (0, .ref (r 0)), (1, .int (nI i)), (2, .int lo), (3, .int hi9)] → W p l e ({ frames := 1, cells := 0, slots := 0, locals := 23 } : Room) s m ([.ref (r 0), .int (nI i), .int lo, .int hi9] : List Value).toArray below meth c s.heap [] 0 0 (MQ below (rqI (nI (fct (ctC (shv dl va wi) lo hi9) 4))) ([.ref (r 0), .int (nI i), .int lo, .int hi9] : List Value).toArray s 0 0 (fun _ => False)) (F0 m 16 ls []) := by
    intro d16
    induction d16 with
    | zero => intro q hq h9; exact absurd h9 (Nat.not_lt_zero _)
    | succ d16 ih16 =>
      intro q hq hm16  ls  hl
      refine lv_iload hx hb dX3_count_16 (lv_at hl 0 rfl) ?_
      refine lv_iconst (v := nI 4) hx hb dX3_count_18 (by decide) ?_
      refine r_icmp_geN hx hb (x := q) (y := 4) (by first | omega | decide) (by first | omega | decide) (tgt := 62) dX3_count_19 (by decide) (fun c19 => ?_) (fun c19 => ?_)
      · refine lv_iload hx hb dX3_count_62 (lv_at hl 1 rfl) ?_
        refine r_top (y := nI (fct (ctC (shv dl va wi) lo hi9) 4)) (congrArg nI (show (fct (ctC (shv dl va wi) lo hi9) q) = (fct (ctC (shv dl va wi) lo hi9) 4) from by rw [show q = 4 by omega])) ?_
        exact W.iret hx hb hr (fun t ht hW => ⟨_, rfl, rfl, ht⟩) (fun _ h => by cases h) dX3_count_64
      · refine lv_aload hx hb dX3_count_22 (lv_at hl 2 rfl) ?_
        refine lv_aload_n hx hb dX3_count_24 rfl (lv_at hl 3 rfl) ?_
        refine va_get (D := D) (ci := 3) (v := .ref (a 0)) (C := RX3) (T := TX3) (N := 3) hx hb hts (fun _ h => List.mem_cons_of_mem _ (List.mem_append_left _ (List.mem_append_left _ (List.mem_append_left _ (List.mem_append_right _ h))))) hown hK.1 hP 0 rfl rfl 0 (by decide) (hts (.fieldLink RX3 10 "RevisionStores" "tree" "LRevisionStores$Tree;") (List.mem_of_getElem? (i := 1) rfl)) (fun _ h9 => h9) rfl dX3_count_25 ?_
        refine lv_iload hx hb dX3_count_28 (lv_at hl 0 rfl) ?_
        refine r_cV (As := [.ref (a 0), .int (nI q)]) (rest := []) ⟨hx, hb, hml, hown, hts⟩ (cX0_shownValue_ok l D ct h hd nl wi a n dc pa va dl ge su q (by first | assumption | omega) (by first | assumption | omega) (by first | assumption | omega)) (cwV 2 hts gX3_count_X0_shownValue rfl rfl rfl (by decide +kernel) ⟨Nat.le_of_ble_eq_true rfl, Nat.le_of_ble_eq_true rfl⟩) hK (hP.sub (ws' := wH ct h hd nl wi ++ wT ct a n dc pa va dl ge su) [12, 13, 14, 15, 2, 3, 4, 5, 6, 7, 8] rfl) 0 0 rfl rfl rfl hl.1 rfl (Nat.le_of_ble_eq_true rfl) dX3_count_30 ⟨Nat.le_of_ble_eq_true rfl, Nat.le_of_ble_eq_true rfl⟩ ?_
        refine lv_istore (lv' := [(7, .int (shv dl va wi q)), (6, .int (nI q)), (5, .int (nI (fct (ctC (shv dl va wi) lo hi9) q))), (4, .ref (h 0)), (0, .ref (r 0)), (1, .int (nI i)), (2, .int lo), (3, .int hi9)]) hx hb dX3_count_33 hl (by decide) rfl (fun ls hl => ?_)
        refine lv_iload hx hb dX3_count_35 (lv_at hl 0 rfl) ?_
        refine lv_iconst (v := -1) hx hb dX3_count_37 (by decide) ?_
        refine lv_icmp_eq (x := shv dl va wi q) (y := -1) (tgt := 56) hx hb dX3_count_38 (by decide) (fun c38 => ?_) (fun c38 => ?_)
        · refine lv_iinc (v := nI (q + 1)) (lv' := [(6, .int (nI (q + 1))), (7, .int (shv dl va wi q)), (5, .int (nI (fct (ctC (shv dl va wi) lo hi9) q))), (4, .ref (h 0)), (0, .ref (r 0)), (1, .int (nI i)), (2, .int lo), (3, .int hi9)]) hx hb dX3_count_56 hl (k := 1) rfl (nI_1 _) (by decide) rfl (fun ls hl => ?_)
          refine lv_goto (tgt := 16) hx hb dX3_count_59 (by decide) ?_
          have hl := lv_re (f := fun z9 => [(6, .int (nI (q + 1))), (7, .int (shv dl va wi q)), (5, .int z9), (4, .ref (h 0)), (0, .ref (r 0)), (1, .int (nI i)), (2, .int lo), (3, .int hi9)]) hl (show nI (fct (ctC (shv dl va wi) lo hi9) q) = nI (fct (ctC (shv dl va wi) lo hi9) (q + 1)) from congrArg nI (show (fct (ctC (shv dl va wi) lo hi9) q) = (fct (ctC (shv dl va wi) lo hi9) (q + 1)) from by simp [fct, ctC, c19, c38]))
          exact ih16 (q + 1) (by first | assumption | omega) (by omega)  ls  (lv_sub hl [0, 2, 3, 4, 5, 6, 7] rfl)
        · refine lv_iload_n hx hb dX3_count_41 rfl (lv_at hl 6 rfl) ?_
          refine lv_iload hx hb dX3_count_42 (lv_at hl 0 rfl) ?_
          refine lv_icmp_gt (x := lo) (y := shv dl va wi q) (tgt := 56) hx hb dX3_count_44 (by decide) (fun c44 => ?_) (fun c44 => ?_)
          · refine lv_iinc (v := nI (q + 1)) (lv' := [(6, .int (nI (q + 1))), (7, .int (shv dl va wi q)), (5, .int (nI (fct (ctC (shv dl va wi) lo hi9) q))), (4, .ref (h 0)), (0, .ref (r 0)), (1, .int (nI i)), (2, .int lo), (3, .int hi9)]) hx hb dX3_count_56 hl (k := 1) rfl (nI_1 _) (by decide) rfl (fun ls hl => ?_)
            refine lv_goto (tgt := 16) hx hb dX3_count_59 (by decide) ?_
            have hl := lv_re (f := fun z9 => [(6, .int (nI (q + 1))), (7, .int (shv dl va wi q)), (5, .int z9), (4, .ref (h 0)), (0, .ref (r 0)), (1, .int (nI i)), (2, .int lo), (3, .int hi9)]) hl (show nI (fct (ctC (shv dl va wi) lo hi9) q) = nI (fct (ctC (shv dl va wi) lo hi9) (q + 1)) from congrArg nI (show (fct (ctC (shv dl va wi) lo hi9) q) = (fct (ctC (shv dl va wi) lo hi9) (q + 1)) from by simp [fct, ctC, c19, c38, c44]))
            exact ih16 (q + 1) (by first | assumption | omega) (by omega)  ls  (lv_sub hl [0, 2, 3, 4, 5, 6, 7] rfl)
          · refine lv_iload hx hb dX3_count_47 (lv_at hl 0 rfl) ?_
            refine lv_iload_n hx hb dX3_count_49 rfl (lv_at hl 7 rfl) ?_
            refine lv_icmp_gt (x := shv dl va wi q) (y := hi9) (tgt := 56) hx hb dX3_count_50 (by decide) (fun c50 => ?_) (fun c50 => ?_)
            · refine lv_iinc (v := nI (q + 1)) (lv' := [(6, .int (nI (q + 1))), (7, .int (shv dl va wi q)), (5, .int (nI (fct (ctC (shv dl va wi) lo hi9) q))), (4, .ref (h 0)), (0, .ref (r 0)), (1, .int (nI i)), (2, .int lo), (3, .int hi9)]) hx hb dX3_count_56 hl (k := 1) rfl (nI_1 _) (by decide) rfl (fun ls hl => ?_)
              refine lv_goto (tgt := 16) hx hb dX3_count_59 (by decide) ?_
              have hl := lv_re (f := fun z9 => [(6, .int (nI (q + 1))), (7, .int (shv dl va wi q)), (5, .int z9), (4, .ref (h 0)), (0, .ref (r 0)), (1, .int (nI i)), (2, .int lo), (3, .int hi9)]) hl (show nI (fct (ctC (shv dl va wi) lo hi9) q) = nI (fct (ctC (shv dl va wi) lo hi9) (q + 1)) from congrArg nI (show (fct (ctC (shv dl va wi) lo hi9) q) = (fct (ctC (shv dl va wi) lo hi9) (q + 1)) from by simp [fct, ctC, c19, c38, c44, c50]))
              exact ih16 (q + 1) (by first | assumption | omega) (by omega)  ls  (lv_sub hl [0, 2, 3, 4, 5, 6, 7] rfl)
            · refine lv_iinc (v := nI (fct (ctC (shv dl va wi) lo hi9) q + 1)) (lv' := [(5, .int (nI (fct (ctC (shv dl va wi) lo hi9) q + 1))), (7, .int (shv dl va wi q)), (6, .int (nI q)), (4, .ref (h 0)), (0, .ref (r 0)), (1, .int (nI i)), (2, .int lo), (3, .int hi9)]) hx hb dX3_count_53 hl (k := 2) rfl (nI_1 _) (by decide) rfl (fun ls hl => ?_)
              refine lv_iinc (v := nI (q + 1)) (lv' := [(6, .int (nI (q + 1))), (5, .int (nI (fct (ctC (shv dl va wi) lo hi9) q + 1))), (7, .int (shv dl va wi q)), (4, .ref (h 0)), (0, .ref (r 0)), (1, .int (nI i)), (2, .int lo), (3, .int hi9)]) hx hb dX3_count_56 hl (k := 2) rfl (nI_1 _) (by decide) rfl (fun ls hl => ?_)
              refine lv_goto (tgt := 16) hx hb dX3_count_59 (by decide) ?_
              have hl := lv_re (f := fun z9 => [(6, .int (nI (q + 1))), (5, .int z9), (7, .int (shv dl va wi q)), (4, .ref (h 0)), (0, .ref (r 0)), (1, .int (nI i)), (2, .int lo), (3, .int hi9)]) hl (show nI (fct (ctC (shv dl va wi) lo hi9) q + 1) = nI (fct (ctC (shv dl va wi) lo hi9) (q + 1)) from congrArg nI (show (fct (ctC (shv dl va wi) lo hi9) q + 1) = (fct (ctC (shv dl va wi) lo hi9) (q + 1)) from by simp [fct, ctC, c19, c38, c44, c50]))
              exact ih16 (q + 1) (by first | assumption | omega) (by omega)  ls  (lv_sub hl [0, 1, 3, 4, 5, 6, 7] rfl)
  have hl := lv_re (f := fun z9 => [(6, .int (nI 0)), (5, .int z9), (4, .ref (h 0)), (0, .ref (r 0)), (1, .int (nI i)), (2, .int lo), (3, .int hi9)]) hl (show nI 0 = nI (fct (ctC (shv dl va wi) lo hi9) 0) from congrArg nI (show 0 = (fct (ctC (shv dl va wi) lo hi9) 0) from rfl))
  exact key16 ((4 - 0) + 1) 0 (by first | assumption | omega) (Nat.lt_succ_self _)  ls  (lv_sub hl [0, 1, 2, 3, 4, 5, 6] rfl)
set_option maxHeartbeats 8000000 in
set_option maxRecDepth 100000 in
theorem cX3_viewAt_ok (l : Launch) (D : va_G) (ct : Nat → ClassId) (r : Nat → Nat) (u : Nat → Nat) (sa : Nat → Nat → Nat) (a : Nat → Nat) (n : Nat) (dc : Nat → Nat) (pa : Nat → Option Nat) (va : Nat → Int32) (dl : Nat → Bool) (ge : Nat → Nat) (su : Nat → Int32) (dp : Int32) (lt : Int32) (ch : Nat → Int32) (ck : Nat → Int32) (h : Nat → Nat) (hd : Nat → Bool) (nl : Nat → Nat) (wi : Nat → Option Nat) (i : Nat) (x : Int32) (q : Nat) (hn : n ≤ 150) (hWi : ∀ d j, wi d = some j → j < n) (hi : i < 3) (hpl : ffd (plC (shv dl va wi) x) 4 = some q) : Met l yX3_viewAt wsX3_viewAt ({ frames := 2, cells := 0, slots := 0, locals := 49 } : Room) (roPc D ct [.ref (r 0), .int (nI i), .int x] (wR ct r a u sa ++ wT ct a n dc pa va dl ge su ++ wS ct (sa i) h dp lt ch ck ++ wH ct h hd nl wi)) (rqI (nI q)) 0 0 (fun _ => False) := by
  refine Met.ofW (cc := cX3_viewAt) (maxL := 6) (ret := (some .int)) (by decide) rfl ?_
  intro p e s m args below meth c s₁ B hml hv
  obtain ⟨rfl, hP, hK⟩ := hv
  have hx := B.exec
  have hb := B.bytes
  have hr := B.returns
  have hts := atoms_spec (ws := wsX3_viewAt) B.pre
  have hown : s.vm.findClass RX3 = some m.cls := findClass_of_methodNamed B.named
  have hlocks := B.notSynchronized
  have hl := lv_entry ([.ref (r 0), .int (nI i), .int x]) (n := 6) (Nat.le_of_ble_eq_true rfl)
  rw [lg_entry_eq]
  generalize (lg_sl ([.ref (r 0), .int (nI i), .int x]) ++ List.replicate (6 - (lg_sl ([.ref (r 0), .int (nI i), .int x])).length) Slot.unset).toArray = ls at hl ⊢
  have hl : lv_has ls 6 [(0, .ref (r 0)), (1, .int (nI i)), (2, .int x)] := hl
  refine lv_aload_n hx hb dX3_viewAt_0 rfl (lv_at hl 0 rfl) ?_
  refine lv_iload_n hx hb dX3_viewAt_1 rfl (lv_at hl 1 rfl) ?_
  refine r_cVr (As := [.int (nI i)]) (rest := []) ⟨hx, hb, hml, hown, hts⟩ (cX3_storeAt_ok l D ct r u sa a i (by first | assumption | omega)) (cwV 1 hts gX3_viewAt_X3_storeAt rfl rfl rfl (by decide +kernel) ⟨Nat.le_of_ble_eq_true rfl, Nat.le_of_ble_eq_true rfl⟩) hK (hP.sub (ws' := wR ct r a u sa) [0, 1] rfl) 0 3 rfl rfl rfl hl.1 rfl (Nat.le_of_ble_eq_true rfl) dX3_viewAt_2 ⟨Nat.le_of_ble_eq_true rfl, Nat.le_of_ble_eq_true rfl⟩ ?_
  refine va_getN (D := D) (ci := 1) (v := .ref (h 0)) (C := RX1) (T := TX1) (N := 5) hx hb hts (fun _ h => List.mem_cons_of_mem _ (List.mem_append_left _ (List.mem_append_left _ (List.mem_append_left _ (List.mem_append_left _ (List.mem_append_right _ h)))))) hown hK.1 hP 9 rfl rfl 0 (by decide) (va_Nw.use rfl (hK.2 _ (List.mem_of_getElem? (i := 4) rfl))) (fun _ h9 => h9) rfl dX3_viewAt_5 ?_
  refine lv_astore_n (lv' := [(3, .ref (h 0)), (0, .ref (r 0)), (1, .int (nI i)), (2, .int x)]) hx hb dX3_viewAt_8 rfl hl (by decide) rfl (fun ls hl => ?_)
  refine lv_iconst (v := nI 0) hx hb dX3_viewAt_9 (by decide) ?_
  refine lv_istore (lv' := [(4, .int (nI 0)), (3, .ref (h 0)), (0, .ref (r 0)), (1, .int (nI i)), (2, .int x)]) hx hb dX3_viewAt_10 hl (by decide) rfl (fun ls hl => ?_)
  have key12 : ∀ (d12 : Nat) (k : Nat) (hk4 : k ≤ 4) (hno : ffd (plC (shv dl va wi) x) k = none), 4 - k < d12 → ∀  (ls : Array Slot), lv_has ls 6 [(4, .int (nI k)), (3, .ref (h 0)), (0, .ref (r 0)), (1, .int (nI i)), (2, .int x)] → W p l e ({ frames := 2, cells := 0, slots := 0, locals := 49 } : Room) s m ([.ref (r 0), .int (nI i), .int x] : List Value).toArray below meth c s.heap [] 0 0 (MQ below (rqI (nI q)) ([.ref (r 0), .int (nI i), .int x] : List Value).toArray s 0 0 (fun _ => False)) (F0 m 12 ls []) := by
    intro d12
    induction d12 with
    | zero => intro k hk4 hno h9; exact absurd h9 (Nat.not_lt_zero _)
    | succ d12 ih12 =>
      intro k hk4 hno hm12  ls  hl
      refine lv_iload hx hb dX3_viewAt_12 (lv_at hl 0 rfl) ?_
      refine lv_iconst (v := nI 4) hx hb dX3_viewAt_14 (by decide) ?_
      refine r_icmp_geN hx hb (x := k) (y := 4) (by first | omega | decide) (by first | omega | decide) (tgt := 61) dX3_viewAt_15 (by decide) (fun c15 => ?_) (fun c15 => ?_)
      · exact absurd hno (by rw [show k = 4 by omega, hpl]; exact fun h => by cases h)
      · refine lv_aload_n hx hb dX3_viewAt_18 rfl (lv_at hl 1 rfl) ?_
        refine lv_aload_n hx hb dX3_viewAt_19 rfl (lv_at hl 2 rfl) ?_
        refine va_get (D := D) (ci := 3) (v := .ref (a 0)) (C := RX3) (T := TX3) (N := 3) hx hb hts (fun _ h => List.mem_cons_of_mem _ (List.mem_append_left _ (List.mem_append_left _ (List.mem_append_left _ (List.mem_append_right _ h))))) hown hK.1 hP 0 rfl rfl 0 (by decide) (hts (.fieldLink RX3 10 "RevisionStores" "tree" "LRevisionStores$Tree;") (List.mem_of_getElem? (i := 3) rfl)) (fun _ h9 => h9) rfl dX3_viewAt_20 ?_
        refine lv_iload hx hb dX3_viewAt_23 (lv_at hl 0 rfl) ?_
        refine r_cV (As := [.ref (a 0), .int (nI k)]) (rest := []) ⟨hx, hb, hml, hown, hts⟩ (cX0_shownValue_ok l D ct h hd nl wi a n dc pa va dl ge su k (by first | assumption | omega) (by first | assumption | omega) (by first | assumption | omega)) (cwV 2 hts gX3_viewAt_X0_shownValue rfl rfl rfl (by decide +kernel) ⟨Nat.le_of_ble_eq_true rfl, Nat.le_of_ble_eq_true rfl⟩) hK (hP.sub (ws' := wH ct h hd nl wi ++ wT ct a n dc pa va dl ge su) [12, 13, 14, 15, 2, 3, 4, 5, 6, 7, 8] rfl) 0 0 rfl rfl rfl hl.1 rfl (Nat.le_of_ble_eq_true rfl) dX3_viewAt_25 ⟨Nat.le_of_ble_eq_true rfl, Nat.le_of_ble_eq_true rfl⟩ ?_
        refine lv_istore (lv' := [(5, .int (shv dl va wi k)), (4, .int (nI k)), (3, .ref (h 0)), (0, .ref (r 0)), (1, .int (nI i)), (2, .int x)]) hx hb dX3_viewAt_28 hl (by decide) rfl (fun ls hl => ?_)
        refine lv_iload hx hb dX3_viewAt_30 (lv_at hl 0 rfl) ?_
        refine lv_iconst (v := -1) hx hb dX3_viewAt_32 (by decide) ?_
        refine lv_icmp_eq (x := shv dl va wi k) (y := -1) (tgt := 55) hx hb dX3_viewAt_33 (by decide) (fun c33 => ?_) (fun c33 => ?_)
        · refine lv_iinc (v := nI (k + 1)) (lv' := [(4, .int (nI (k + 1))), (5, .int (shv dl va wi k)), (3, .ref (h 0)), (0, .ref (r 0)), (1, .int (nI i)), (2, .int x)]) hx hb dX3_viewAt_55 hl (k := 1) rfl (nI_1 _) (by decide) rfl (fun ls hl => ?_)
          refine lv_goto (tgt := 12) hx hb dX3_viewAt_58 (by decide) ?_
          exact ih12 (k + 1) (by first | assumption | omega) (ffd_no hno (by simp [plC, c15, c33])) (by omega)  ls  (lv_sub hl [0, 2, 3, 4, 5] rfl)
        · refine lv_aload_n hx hb dX3_viewAt_36 rfl (lv_at hl 2 rfl) ?_
          refine lv_aload_n hx hb dX3_viewAt_37 rfl (lv_at hl 3 rfl) ?_
          refine va_get (D := D) (ci := 3) (v := .ref (a 0)) (C := RX3) (T := TX3) (N := 3) hx hb hts (fun _ h => List.mem_cons_of_mem _ (List.mem_append_left _ (List.mem_append_left _ (List.mem_append_left _ (List.mem_append_right _ h))))) hown hK.1 hP 0 rfl rfl 0 (by decide) (hts (.fieldLink RX3 10 "RevisionStores" "tree" "LRevisionStores$Tree;") (List.mem_of_getElem? (i := 3) rfl)) (fun _ h9 => h9) rfl dX3_viewAt_38 ?_
          refine lv_iload hx hb dX3_viewAt_41 (lv_at hl 0 rfl) ?_
          refine lv_iload hx hb dX3_viewAt_43 (lv_at hl 1 rfl) ?_
          refine r_cV (As := [.ref (a 0), .int (shv dl va wi k), .int (nI k)]) (rest := []) ⟨hx, hb, hml, hown, hts⟩ (cX0_countShownBefore_ok l D ct h hd nl wi a n dc pa va dl ge su (shv dl va wi k) k (by first | assumption | omega) (by first | assumption | omega) (by first | assumption | omega)) (cwV 3 hts gX3_viewAt_X0_countShownBefore rfl rfl rfl (by decide +kernel) ⟨Nat.le_of_ble_eq_true rfl, Nat.le_of_ble_eq_true rfl⟩) hK (hP.sub (ws' := wH ct h hd nl wi ++ wT ct a n dc pa va dl ge su) [12, 13, 14, 15, 2, 3, 4, 5, 6, 7, 8] rfl) 0 0 rfl rfl rfl hl.1 rfl (Nat.le_of_ble_eq_true rfl) dX3_viewAt_45 ⟨Nat.le_of_ble_eq_true rfl, Nat.le_of_ble_eq_true rfl⟩ ?_
          refine lv_iload_n hx hb dX3_viewAt_48 rfl (lv_at hl 5 rfl) ?_
          refine lv_icmp_ne (x := nI (fct (bfC (shv dl va wi) (shv dl va wi k) k) 4)) (y := x) (tgt := 55) hx hb dX3_viewAt_49 (by decide) (fun c49 => ?_) (fun c49 => ?_)
          · refine lv_iinc (v := nI (k + 1)) (lv' := [(4, .int (nI (k + 1))), (5, .int (shv dl va wi k)), (3, .ref (h 0)), (0, .ref (r 0)), (1, .int (nI i)), (2, .int x)]) hx hb dX3_viewAt_55 hl (k := 1) rfl (nI_1 _) (by decide) rfl (fun ls hl => ?_)
            refine lv_goto (tgt := 12) hx hb dX3_viewAt_58 (by decide) ?_
            exact ih12 (k + 1) (by first | assumption | omega) (ffd_no hno (by simp [plC, c15, c33, c49])) (by omega)  ls  (lv_sub hl [0, 2, 3, 4, 5] rfl)
          · refine lv_iload hx hb dX3_viewAt_52 (lv_at hl 1 rfl) ?_
            refine r_top (y := nI q) (congrArg nI (show k = q from by have e9 := ffd_hit (n := 4) hno (by simp [plC, c15, c33, c49]) (by omega); rw [hpl] at e9; exact (Option.some.inj e9).symm)) ?_
            exact W.iret hx hb hr (fun t ht hW => ⟨_, rfl, rfl, ht⟩) (fun _ h => by cases h) dX3_viewAt_54
  exact key12 ((4 - 0) + 1) 0 (by first | assumption | omega) (rfl) (Nat.lt_succ_self _)  ls  (lv_sub hl [0, 1, 2, 3, 4] rfl)
