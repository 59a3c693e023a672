set_option maxHeartbeats 8000000 in
set_option maxRecDepth 100000 in
theorem cX3_delete_found (l : Launch) (D : va_G) (ct : Nat → ClassId) (r : Nat → Nat) (u : Nat → Nat) (sa : Nat → Nat → Nat) (a : Nat → Nat) (n : Nat) (dc : Nat → Nat) (pa : Nat → Option Nat) (va : Nat → Int32) (dl : Nat → Bool) (ge : Nat → Nat) (su : Nat → Int32) (dp : Int32) (lt : Int32) (ch : Nat → Int32) (ck : Nat → Int32) (h : Nat → Nat) (hd : Nat → Bool) (nl : Nat → Nat) (wi : Nat → Option Nat) (i : Nat) (d : Nat) (k : Nat) (j : Nat) (hn9 : n < 150) (hn : n ≤ 150) (hTd : ∀ k, dc k < 4) (hTg : ∀ k, ge k ≤ 150) (hTp : ∀ k j, k < n → pa k = some j → j < k) (hNl : ∀ k, nl k ≤ 151) (hi : i < 3) (hd4 : d < 4) (hk : k < n) (hdk : dc k = d) (hlf : ends hd nl k = true) (hdl : dl k = false) (hf : ffd (fnd dc pa va dl d (some k) (nI 0) true) n = some j) (hjn : j < n) (sz : Nat) : Met l yX3_delete wsX3_delete ({ frames := 7, cells := 0, slots := 0, locals := 157 } : Room) (wrPc D ct [.ref (r 0), .int (nI i), .int (nI d), .int (nI k)] (wR ct r a u sa ++ wT ct a n dc pa va dl ge su ++ wS ct (sa i) h dp lt ch ck ++ wH ct h hd nl wi) sz) (wqI D (nI j) (wR ct r a u sa ++ wT ct a n dc pa va dl ge su ++ wS ct (sa i) h dp (lt + nI 1) (va_up ch (dc j) (lt + nI 1)) ck ++ wH ct h (stm (va_up hd j true) (flS pa ge (va_up hd j true) n n) ge dp n) (flS pa ge (va_up hd j true) n n) (fwS dc dl ge su (ends (va_up hd j true) (flS pa ge (va_up hd j true) n n)) n)) (va_A (wR ct r a u sa ++ wT ct a n dc pa va dl ge su ++ wS ct (sa i) h dp lt ch ck ++ wH ct h hd nl wi) sz)) 0 0 (va_A (wR ct r a u sa ++ wT ct a n dc pa va dl ge su ++ wS ct (sa i) h dp lt ch ck ++ wH ct h hd nl wi) sz) := by
  refine Met.ofW (cc := cX3_delete) (maxL := 5) (ret := (some .int)) (by decide) rfl ?_
  intro p e s m args below meth c s₁ B hml hv
  obtain ⟨rfl, hsz, hP, hK, hD0⟩ := hv
  have hx := B.exec
  have hb := B.bytes
  have hr := B.returns
  have hts := atoms_spec (ws := wsX3_delete) B.pre
  have hown : s.vm.findClass RX3 = some m.cls := findClass_of_methodNamed B.named
  have hlocks := B.notSynchronized
  subst hsz
  have hD := hD0.self (sz := s.heap.size)
  generalize hAe : va_A (wR ct r a u sa ++ wT ct a n dc pa va dl ge su ++ wS ct (sa i) h dp lt ch ck ++ wH ct h hd nl wi) s.heap.size = A at hD ⊢
  have hA : ∀ q : Nat, s.heap.size ≤ q → A q := fun q h => by rw [← hAe]; exact Or.inr h
  have hS : va_S A s.heap s.heap [] := va_S.rf
  have hP : va_P D vwCl (wR ct r a u sa ++ wT ct a n dc pa va dl ge su ++ wS ct (sa i) h dp lt ch ck ++ wH ct h hd nl wi) s.heap := hP
  clear hAe hD0
  have hl := lv_entry ([.ref (r 0), .int (nI i), .int (nI d), .int (nI k)]) (n := 5) (Nat.le_of_ble_eq_true rfl)
  rw [lg_entry_eq]
  generalize (lg_sl ([.ref (r 0), .int (nI i), .int (nI d), .int (nI k)]) ++ List.replicate (5 - (lg_sl ([.ref (r 0), .int (nI i), .int (nI d), .int (nI k)])).length) Slot.unset).toArray = ls at hl ⊢
  have hl : lv_has ls 5 [(0, .ref (r 0)), (1, .int (nI i)), (2, .int (nI d)), (3, .int (nI k))] := hl
  have hH0 : s.heap.size ≤ s.heap.size := Nat.le_refl _
  refine lv_aload_n hx hb dX3_delete_0 rfl (lv_at hl 0 rfl) ?_
  refine lv_iload_n hx hb dX3_delete_1 rfl (lv_at hl 1 rfl) ?_
  refine r_cVr (As := [.int (nI i)]) (rest := []) ⟨hx, hb, hml, hown, hts⟩ (cX3_storeAt_ok l D ct r u sa a i (by first | assumption | omega)) (cwV 1 hts gX3_delete_X3_storeAt rfl rfl rfl (by decide +kernel) ⟨Nat.le_of_ble_eq_true rfl, Nat.le_of_ble_eq_true rfl⟩) hK (hP.sub (ws' := wR ct r a u sa) [0, 1] rfl) 0 3 rfl rfl rfl hl.1 rfl (Nat.le_of_ble_eq_true rfl) dX3_delete_2 ⟨Nat.le_of_ble_eq_true rfl, Nat.le_of_ble_eq_true rfl⟩ ?_
  refine lv_astore (lv' := [(4, .ref ((sa i) 0)), (0, .ref (r 0)), (1, .int (nI i)), (2, .int (nI d)), (3, .int (nI k))]) hx hb dX3_delete_5 hl (by decide) rfl (fun ls hl => ?_)
  refine lv_aload_n hx hb dX3_delete_7 rfl (lv_at hl 1 rfl) ?_
  refine lv_iload_n hx hb dX3_delete_8 rfl (lv_at hl 3 rfl) ?_
  refine r_cVv (As := [.int (nI d)]) (rest := []) ⟨hx, hb, hml, hown, hts⟩ (cX3_checkDocument_ok l D ct r u sa a d (by first | assumption | omega)) (cwV 1 hts gX3_delete_X3_checkDocument rfl rfl rfl (by decide +kernel) ⟨Nat.le_of_ble_eq_true rfl, Nat.le_of_ble_eq_true rfl⟩) hK (hP.sub (ws' := wR ct r a u sa) [0, 1] rfl) 0 3 rfl rfl rfl hl.1 rfl (Nat.le_of_ble_eq_true rfl) dX3_delete_9 ⟨Nat.le_of_ble_eq_true rfl, Nat.le_of_ble_eq_true rfl⟩ ?_
  refine lv_aload_n hx hb dX3_delete_12 rfl (lv_at hl 1 rfl) ?_
  refine lv_iload_n hx hb dX3_delete_13 rfl (lv_at hl 4 rfl) ?_
  refine r_cVv (As := [.int (nI k)]) (rest := []) ⟨hx, hb, hml, hown, hts⟩ (cX3_checkRevision_ok l D ct r u sa a n dc pa va dl ge su k (by first | assumption | omega) (by first | assumption | omega)) (cwV 1 hts gX3_delete_X3_checkRevision rfl rfl rfl (by decide +kernel) ⟨Nat.le_of_ble_eq_true rfl, Nat.le_of_ble_eq_true rfl⟩) hK (hP.sub (ws' := wR ct r a u sa ++ wT ct a n dc pa va dl ge su) [0, 1, 2, 3, 4, 5, 6, 7, 8] rfl) 0 3 rfl rfl rfl hl.1 rfl (Nat.le_of_ble_eq_true rfl) dX3_delete_14 ⟨Nat.le_of_ble_eq_true rfl, Nat.le_of_ble_eq_true rfl⟩ ?_
  refine lv_aload_n hx hb dX3_delete_17 rfl (lv_at hl 1 rfl) ?_
  refine lv_aload hx hb dX3_delete_18 (lv_at hl 0 rfl) ?_
  refine lv_iload_n hx hb dX3_delete_20 rfl (lv_at hl 3 rfl) ?_
  refine lv_iload_n hx hb dX3_delete_21 rfl (lv_at hl 4 rfl) ?_
  refine r_cVv (As := [.ref ((sa i) 0), .int (nI d), .int (nI k)]) (rest := []) ⟨hx, hb, hml, hown, hts⟩ (cX3_checkLeaf_ok l D ct r u sa a n dc pa va dl ge su (sa i) dp lt ch ck h hd nl wi d k (by first | assumption | omega) (by first | assumption | omega) (by first | assumption | omega) (by first | assumption | omega) (by first | assumption | omega) (by first | assumption | omega) (by first | assumption | omega)) (cwV 3 hts gX3_delete_X3_checkLeaf rfl rfl rfl (by decide +kernel) ⟨Nat.le_of_ble_eq_true rfl, Nat.le_of_ble_eq_true rfl⟩) hK (hP.sub (ws' := wR ct r a u sa ++ wT ct a n dc pa va dl ge su ++ wS ct (sa i) h dp lt ch ck ++ wH ct h hd nl wi) [0, 1, 2, 3, 4, 5, 6, 7, 8, 9, 10, 11, 12, 13, 14, 15] rfl) 0 3 rfl rfl rfl hl.1 rfl (Nat.le_of_ble_eq_true rfl) dX3_delete_22 ⟨Nat.le_of_ble_eq_true rfl, Nat.le_of_ble_eq_true rfl⟩ ?_
  refine lv_aload_n hx hb dX3_delete_25 rfl (lv_at hl 1 rfl) ?_
  refine va_get (D := D) (ci := 3) (v := .ref (a 0)) (C := RX3) (T := TX3) (N := 3) hx hb hts (fun _ h => List.mem_cons_of_mem _ (List.mem_append_left _ (List.mem_append_left _ (List.mem_append_left _ (List.mem_append_left _ (List.mem_append_left _ (List.mem_append_right _ h))))))) hown hK.1 hP 0 rfl rfl 0 (by decide) (hts (.fieldLink RX3 10 "RevisionStores" "tree" "LRevisionStores$Tree;") (List.mem_of_getElem? (i := 3) rfl)) (fun _ h9 => h9) rfl dX3_delete_26 ?_
  refine va_getN (D := D) (ci := 2) (v := .ref (a 4)) (C := RX2) (T := TX2) (N := 7) hx hb hts (fun _ h => List.mem_cons_of_mem _ (List.mem_append_left _ (List.mem_append_left _ (List.mem_append_left _ (List.mem_append_left _ (List.mem_append_right _ h)))))) hown hK.1 hP 2 rfl rfl 3 (by decide) (va_Nw.use rfl (hK.2 _ (List.mem_of_getElem? (i := 2) rfl))) (fun _ h9 => h9) rfl dX3_delete_29 ?_
  refine lv_iload_n hx hb dX3_delete_32 rfl (lv_at hl 4 rfl) ?_
  refine r_zald (j := k) (v := bI (dl k)) hx hb hK.1 hP 6 1 rfl rfl (by omega) (by first | decide | omega) rfl dX3_delete_33 ?_
  refine r_if_eqB (x := dl k) (tgt := 47) hx hb dX3_delete_34 (by decide) (fun c34 => ?_) (fun c34 => ?_)
  · refine lv_aload_n hx hb dX3_delete_47 rfl (lv_at hl 1 rfl) ?_
    refine r_cVv (As := []) (rest := []) ⟨hx, hb, hml, hown, hts⟩ (cX3_checkRoom_ok l D ct r u sa a n dc pa va dl ge su (by first | assumption | omega)) (cwV 0 hts gX3_delete_X3_checkRoom rfl rfl rfl (by decide +kernel) ⟨Nat.le_of_ble_eq_true rfl, Nat.le_of_ble_eq_true rfl⟩) hK (hP.sub (ws' := wR ct r a u sa ++ wT ct a n dc pa va dl ge su) [0, 1, 2, 3, 4, 5, 6, 7, 8] rfl) 0 3 rfl rfl rfl hl.1 rfl (Nat.le_of_ble_eq_true rfl) dX3_delete_48 ⟨Nat.le_of_ble_eq_true rfl, Nat.le_of_ble_eq_true rfl⟩ ?_
    refine lv_aload_n hx hb dX3_delete_51 rfl (lv_at hl 1 rfl) ?_
    refine lv_aload hx hb dX3_delete_52 (lv_at hl 0 rfl) ?_
    refine lv_iload_n hx hb dX3_delete_54 rfl (lv_at hl 3 rfl) ?_
    refine lv_iload_n hx hb dX3_delete_55 rfl (lv_at hl 4 rfl) ?_
    refine lv_iconst (v := nI 0) hx hb dX3_delete_56 (by decide) ?_
    refine lv_iconst (v := nI 1) hx hb dX3_delete_57 (by decide) ?_
    refine r_wVi (As := [.ref ((sa i) 0), .int (nI d), .int (eP (some k)), .int (nI 0), .int (bI true)]) (rest := []) ⟨hx, hb, hml, hown, hts⟩ (cX3_grow_found l D ct r u sa a n dc pa va dl ge su (sa i) dp lt ch ck h hd nl wi d (some k) (nI 0) true j (by first | assumption | omega) (by first | assumption | omega) (by first | assumption | omega) (by first | assumption | omega) (by first | assumption | omega) (by intro j9 h9; cases h9; exact hk) (by first | assumption | omega) (by first | assumption | omega) s.heap.size) (cwV 5 hts gX3_delete_X3_grow rfl rfl rfl (by decide +kernel) ⟨Nat.le_of_ble_eq_true rfl, Nat.le_of_ble_eq_true rfl⟩) hK hP hD hS hA [0, 1, 2, 3, 4, 5, 6, 7, 8, 9, 10, 11, 12, 13, 14, 15] rfl rfl rfl 0 3 rfl rfl rfl hl.1 rfl (Nat.le_of_ble_eq_true rfl) dX3_delete_58 ⟨Nat.le_of_ble_eq_true rfl, Nat.le_of_ble_eq_true rfl⟩ (fun H locs hP hD hS => ?_)
    have hP : va_P D vwCl (wR ct r a u sa ++ wT ct a n dc pa va dl ge su ++ wS ct (sa i) h dp (lt + nI 1) (va_up ch (dc j) (lt + nI 1)) ck ++ wH ct h (stm (va_up hd j true) (flS pa ge (va_up hd j true) n n) ge dp n) (flS pa ge (va_up hd j true) n n) (fwS dc dl ge su (ends (va_up hd j true) (flS pa ge (va_up hd j true) n n)) n)) H := hP
    have hD : va_D A (wR ct r a u sa ++ wT ct a n dc pa va dl ge su ++ wS ct (sa i) h dp (lt + nI 1) (va_up ch (dc j) (lt + nI 1)) ck ++ wH ct h (stm (va_up hd j true) (flS pa ge (va_up hd j true) n n) ge dp n) (flS pa ge (va_up hd j true) n n) (fwS dc dl ge su (ends (va_up hd j true) (flS pa ge (va_up hd j true) n n)) n)) := hD
    exact W.iret hx hb hr (fun t ht hW => ⟨⟨_, (), rfl, rfl, by show va_P D vwCl _ t.heap; rw [ht]; exact hP⟩, hS.F ht⟩) hS.2.2 dX3_delete_61
  · rw [hdl] at c34; cases c34
set_option maxHeartbeats 8000000 in
set_option maxRecDepth 100000 in
theorem cX3_delete_new (l : Launch) (D : va_G) (ct : Nat → ClassId) (r : Nat → Nat) (u : Nat → Nat) (sa : Nat → Nat → Nat) (a : Nat → Nat) (n : Nat) (dc : Nat → Nat) (pa : Nat → Option Nat) (va : Nat → Int32) (dl : Nat → Bool) (ge : Nat → Nat) (su : Nat → Int32) (dp : Int32) (lt : Int32) (ch : Nat → Int32) (ck : Nat → Int32) (h : Nat → Nat) (hd : Nat → Bool) (nl : Nat → Nat) (wi : Nat → Option Nat) (i : Nat) (d : Nat) (k : Nat) (hn9 : n < 150) (hn : n ≤ 150) (hTd : ∀ k, dc k < 4) (hTg : ∀ k, ge k ≤ 150) (hTp : ∀ k j, k < n → pa k = some j → j < k) (hNl : ∀ k, nl k ≤ 151) (hi : i < 3) (hd4 : d < 4) (hk : k < n) (hdk : dc k = d) (hlf : ends hd nl k = true) (hdl : dl k = false) (hg1 : mkg ge (some k) ≤ 150) (hf : ffd (fnd dc pa va dl d (some k) (nI 0) true) n = none) (sz : Nat) : Met l yX3_delete wsX3_delete ({ frames := 7, cells := 0, slots := 0, locals := 157 } : Room) (wrPc D ct [.ref (r 0), .int (nI i), .int (nI d), .int (nI k)] (wR ct r a u sa ++ wT ct a n dc pa va dl ge su ++ wS ct (sa i) h dp lt ch ck ++ wH ct h hd nl wi) sz) (wqI D (nI n) (wR ct r a u sa ++ wT ct a (n + 1) (va_up dc n d) (va_up pa n (some k)) (va_up va n (nI 0)) (va_up dl n true) (va_up ge n (mkg ge (some k))) (va_up su n (mksu ge su (some k) (nI 0) true)) ++ wS ct (sa i) h dp (lt + nI 1) (va_up ch ((va_up dc n d) n) (lt + nI 1)) ck ++ wH ct h (stm (va_up hd n true) (flS (va_up pa n (some k)) (va_up ge n (mkg ge (some k))) (va_up hd n true) (n + 1) (n + 1)) (va_up ge n (mkg ge (some k))) dp (n + 1)) (flS (va_up pa n (some k)) (va_up ge n (mkg ge (some k))) (va_up hd n true) (n + 1) (n + 1)) (fwS (va_up dc n d) (va_up dl n true) (va_up ge n (mkg ge (some k))) (va_up su n (mksu ge su (some k) (nI 0) true)) (ends (va_up hd n true) (flS (va_up pa n (some k)) (va_up ge n (mkg ge (some k))) (va_up hd n true) (n + 1) (n + 1))) (n + 1))) (va_A (wR ct r a u sa ++ wT ct a n dc pa va dl ge su ++ wS ct (sa i) h dp lt ch ck ++ wH ct h hd nl wi) sz)) 0 0 (va_A (wR ct r a u sa ++ wT ct a n dc pa va dl ge su ++ wS ct (sa i) h dp lt ch ck ++ wH ct h hd nl wi) sz) := by
  refine Met.ofW (cc := cX3_delete) (maxL := 5) (ret := (some .int)) (by decide) rfl ?_
  intro p e s m args below meth c s₁ B hml hv
  obtain ⟨rfl, hsz, hP, hK, hD0⟩ := hv
  have hx := B.exec
  have hb := B.bytes
  have hr := B.returns
  have hts := atoms_spec (ws := wsX3_delete) B.pre
  have hown : s.vm.findClass RX3 = some m.cls := findClass_of_methodNamed B.named
  have hlocks := B.notSynchronized
  subst hsz
  have hD := hD0.self (sz := s.heap.size)
  generalize hAe : va_A (wR ct r a u sa ++ wT ct a n dc pa va dl ge su ++ wS ct (sa i) h dp lt ch ck ++ wH ct h hd nl wi) s.heap.size = A at hD ⊢
  have hA : ∀ q : Nat, s.heap.size ≤ q → A q := fun q h => by rw [← hAe]; exact Or.inr h
  have hS : va_S A s.heap s.heap [] := va_S.rf
  have hP : va_P D vwCl (wR ct r a u sa ++ wT ct a n dc pa va dl ge su ++ wS ct (sa i) h dp lt ch ck ++ wH ct h hd nl wi) s.heap := hP
  clear hAe hD0
  have hl := lv_entry ([.ref (r 0), .int (nI i), .int (nI d), .int (nI k)]) (n := 5) (Nat.le_of_ble_eq_true rfl)
  rw [lg_entry_eq]
  generalize (lg_sl ([.ref (r 0), .int (nI i), .int (nI d), .int (nI k)]) ++ List.replicate (5 - (lg_sl ([.ref (r 0), .int (nI i), .int (nI d), .int (nI k)])).length) Slot.unset).toArray = ls at hl ⊢
  have hl : lv_has ls 5 [(0, .ref (r 0)), (1, .int (nI i)), (2, .int (nI d)), (3, .int (nI k))] := hl
  have hH0 : s.heap.size ≤ s.heap.size := Nat.le_refl _
  refine lv_aload_n hx hb dX3_delete_0 rfl (lv_at hl 0 rfl) ?_
  refine lv_iload_n hx hb dX3_delete_1 rfl (lv_at hl 1 rfl) ?_
  refine r_cVr (As := [.int (nI i)]) (rest := []) ⟨hx, hb, hml, hown, hts⟩ (cX3_storeAt_ok l D ct r u sa a i (by first | assumption | omega)) (cwV 1 hts gX3_delete_X3_storeAt rfl rfl rfl (by decide +kernel) ⟨Nat.le_of_ble_eq_true rfl, Nat.le_of_ble_eq_true rfl⟩) hK (hP.sub (ws' := wR ct r a u sa) [0, 1] rfl) 0 3 rfl rfl rfl hl.1 rfl (Nat.le_of_ble_eq_true rfl) dX3_delete_2 ⟨Nat.le_of_ble_eq_true rfl, Nat.le_of_ble_eq_true rfl⟩ ?_
  refine lv_astore (lv' := [(4, .ref ((sa i) 0)), (0, .ref (r 0)), (1, .int (nI i)), (2, .int (nI d)), (3, .int (nI k))]) hx hb dX3_delete_5 hl (by decide) rfl (fun ls hl => ?_)
  refine lv_aload_n hx hb dX3_delete_7 rfl (lv_at hl 1 rfl) ?_
  refine lv_iload_n hx hb dX3_delete_8 rfl (lv_at hl 3 rfl) ?_
  refine r_cVv (As := [.int (nI d)]) (rest := []) ⟨hx, hb, hml, hown, hts⟩ (cX3_checkDocument_ok l D ct r u sa a d (by first | assumption | omega)) (cwV 1 hts gX3_delete_X3_checkDocument rfl rfl rfl (by decide +kernel) ⟨Nat.le_of_ble_eq_true rfl, Nat.le_of_ble_eq_true rfl⟩) hK (hP.sub (ws' := wR ct r a u sa) [0, 1] rfl) 0 3 rfl rfl rfl hl.1 rfl (Nat.le_of_ble_eq_true rfl) dX3_delete_9 ⟨Nat.le_of_ble_eq_true rfl, Nat.le_of_ble_eq_true rfl⟩ ?_
  refine lv_aload_n hx hb dX3_delete_12 rfl (lv_at hl 1 rfl) ?_
  refine lv_iload_n hx hb dX3_delete_13 rfl (lv_at hl 4 rfl) ?_
  refine r_cVv (As := [.int (nI k)]) (rest := []) ⟨hx, hb, hml, hown, hts⟩ (cX3_checkRevision_ok l D ct r u sa a n dc pa va dl ge su k (by first | assumption | omega) (by first | assumption | omega)) (cwV 1 hts gX3_delete_X3_checkRevision rfl rfl rfl (by decide +kernel) ⟨Nat.le_of_ble_eq_true rfl, Nat.le_of_ble_eq_true rfl⟩) hK (hP.sub (ws' := wR ct r a u sa ++ wT ct a n dc pa va dl ge su) [0, 1, 2, 3, 4, 5, 6, 7, 8] rfl) 0 3 rfl rfl rfl hl.1 rfl (Nat.le_of_ble_eq_true rfl) dX3_delete_14 ⟨Nat.le_of_ble_eq_true rfl, Nat.le_of_ble_eq_true rfl⟩ ?_
  refine lv_aload_n hx hb dX3_delete_17 rfl (lv_at hl 1 rfl) ?_
  refine lv_aload hx hb dX3_delete_18 (lv_at hl 0 rfl) ?_
  refine lv_iload_n hx hb dX3_delete_20 rfl (lv_at hl 3 rfl) ?_
  refine lv_iload_n hx hb dX3_delete_21 rfl (lv_at hl 4 rfl) ?_
  refine r_cVv (As := [.ref ((sa i) 0), .int (nI d), .int (nI k)]) (rest := []) ⟨hx, hb, hml, hown, hts⟩ (cX3_checkLeaf_ok l D ct r u sa a n dc pa va dl ge su (sa i) dp lt ch ck h hd nl wi d k (by first | assumption | omega) (by first | assumption | omega) (by first | assumption | omega) (by first | assumption | omega) (by first | assumption | omega) (by first | assumption | omega) (by first | assumption | omega)) (cwV 3 hts gX3_delete_X3_checkLeaf rfl rfl rfl (by decide +kernel) ⟨Nat.le_of_ble_eq_true rfl, Nat.le_of_ble_eq_true rfl⟩) hK (hP.sub (ws' := wR ct r a u sa ++ wT ct a n dc pa va dl ge su ++ wS ct (sa i) h dp lt ch ck ++ wH ct h hd nl wi) [0, 1, 2, 3, 4, 5, 6, 7, 8, 9, 10, 11, 12, 13, 14, 15] rfl) 0 3 rfl rfl rfl hl.1 rfl (Nat.le_of_ble_eq_true rfl) dX3_delete_22 ⟨Nat.le_of_ble_eq_true rfl, Nat.le_of_ble_eq_true rfl⟩ ?_
  refine lv_aload_n hx hb dX3_delete_25 rfl (lv_at hl 1 rfl) ?_
  refine va_get (D := D) (ci := 3) (v := .ref (a 0)) (C := RX3) (T := TX3) (N := 3) hx hb hts (fun _ h => List.mem_cons_of_mem _ (List.mem_append_left _ (List.mem_append_left _ (List.mem_append_left _ (List.mem_append_left _ (List.mem_append_left _ (List.mem_append_right _ h))))))) hown hK.1 hP 0 rfl rfl 0 (by decide) (hts (.fieldLink RX3 10 "RevisionStores" "tree" "LRevisionStores$Tree;") (List.mem_of_getElem? (i := 3) rfl)) (fun _ h9 => h9) rfl dX3_delete_26 ?_
  refine va_getN (D := D) (ci := 2) (v := .ref (a 4)) (C := RX2) (T := TX2) (N := 7) hx hb hts (fun _ h => List.mem_cons_of_mem _ (List.mem_append_left _ (List.mem_append_left _ (List.mem_append_left _ (List.mem_append_left _ (List.mem_append_right _ h)))))) hown hK.1 hP 2 rfl rfl 3 (by decide) (va_Nw.use rfl (hK.2 _ (List.mem_of_getElem? (i := 2) rfl))) (fun _ h9 => h9) rfl dX3_delete_29 ?_
  refine lv_iload_n hx hb dX3_delete_32 rfl (lv_at hl 4 rfl) ?_
  refine r_zald (j := k) (v := bI (dl k)) hx hb hK.1 hP 6 1 rfl rfl (by omega) (by first | decide | omega) rfl dX3_delete_33 ?_
  refine r_if_eqB (x := dl k) (tgt := 47) hx hb dX3_delete_34 (by decide) (fun c34 => ?_) (fun c34 => ?_)
  · refine lv_aload_n hx hb dX3_delete_47 rfl (lv_at hl 1 rfl) ?_
    refine r_cVv (As := []) (rest := []) ⟨hx, hb, hml, hown, hts⟩ (cX3_checkRoom_ok l D ct r u sa a n dc pa va dl ge su (by first | assumption | omega)) (cwV 0 hts gX3_delete_X3_checkRoom rfl rfl rfl (by decide +kernel) ⟨Nat.le_of_ble_eq_true rfl, Nat.le_of_ble_eq_true rfl⟩) hK (hP.sub (ws' := wR ct r a u sa ++ wT ct a n dc pa va dl ge su) [0, 1, 2, 3, 4, 5, 6, 7, 8] rfl) 0 3 rfl rfl rfl hl.1 rfl (Nat.le_of_ble_eq_true rfl) dX3_delete_48 ⟨Nat.le_of_ble_eq_true rfl, Nat.le_of_ble_eq_true rfl⟩ ?_
    refine lv_aload_n hx hb dX3_delete_51 rfl (lv_at hl 1 rfl) ?_
    refine lv_aload hx hb dX3_delete_52 (lv_at hl 0 rfl) ?_
    refine lv_iload_n hx hb dX3_delete_54 rfl (lv_at hl 3 rfl) ?_
    refine lv_iload_n hx hb dX3_delete_55 rfl (lv_at hl 4 rfl) ?_
    refine lv_iconst (v := nI 0) hx hb dX3_delete_56 (by decide) ?_
    refine lv_iconst (v := nI 1) hx hb dX3_delete_57 (by decide) ?_
    refine r_wVi (As := [.ref ((sa i) 0), .int (nI d), .int (eP (some k)), .int (nI 0), .int (bI true)]) (rest := []) ⟨hx, hb, hml, hown, hts⟩ (cX3_grow_new l D ct r u sa a n dc pa va dl ge su (sa i) dp lt ch ck h hd nl wi d (some k) (nI 0) true (by first | assumption | omega) (by first | assumption | omega) (by first | assumption | omega) (by first | assumption | omega) (by first | assumption | omega) (by first | assumption | omega) (by intro j9 h9; cases h9; exact hk) (by first | assumption | omega) (by first | assumption | omega) s.heap.size) (cwV 5 hts gX3_delete_X3_grow rfl rfl rfl (by decide +kernel) ⟨Nat.le_of_ble_eq_true rfl, Nat.le_of_ble_eq_true rfl⟩) hK hP hD hS hA [0, 1, 2, 3, 4, 5, 6, 7, 8, 9, 10, 11, 12, 13, 14, 15] rfl rfl rfl 0 3 rfl rfl rfl hl.1 rfl (Nat.le_of_ble_eq_true rfl) dX3_delete_58 ⟨Nat.le_of_ble_eq_true rfl, Nat.le_of_ble_eq_true rfl⟩ (fun H locs hP hD hS => ?_)
    have hP : va_P D vwCl (wR ct r a u sa ++ wT ct a (n + 1) (va_up dc n d) (va_up pa n (some k)) (va_up va n (nI 0)) (va_up dl n true) (va_up ge n (mkg ge (some k))) (va_up su n (mksu ge su (some k) (nI 0) true)) ++ wS ct (sa i) h dp (lt + nI 1) (va_up ch ((va_up dc n d) n) (lt + nI 1)) ck ++ wH ct h (stm (va_up hd n true) (flS (va_up pa n (some k)) (va_up ge n (mkg ge (some k))) (va_up hd n true) (n + 1) (n + 1)) (va_up ge n (mkg ge (some k))) dp (n + 1)) (flS (va_up pa n (some k)) (va_up ge n (mkg ge (some k))) (va_up hd n true) (n + 1) (n + 1)) (fwS (va_up dc n d) (va_up dl n true) (va_up ge n (mkg ge (some k))) (va_up su n (mksu ge su (some k) (nI 0) true)) (ends (va_up hd n true) (flS (va_up pa n (some k)) (va_up ge n (mkg ge (some k))) (va_up hd n true) (n + 1) (n + 1))) (n + 1))) H := hP
    have hD : va_D A (wR ct r a u sa ++ wT ct a (n + 1) (va_up dc n d) (va_up pa n (some k)) (va_up va n (nI 0)) (va_up dl n true) (va_up ge n (mkg ge (some k))) (va_up su n (mksu ge su (some k) (nI 0) true)) ++ wS ct (sa i) h dp (lt + nI 1) (va_up ch ((va_up dc n d) n) (lt + nI 1)) ck ++ wH ct h (stm (va_up hd n true) (flS (va_up pa n (some k)) (va_up ge n (mkg ge (some k))) (va_up hd n true) (n + 1) (n + 1)) (va_up ge n (mkg ge (some k))) dp (n + 1)) (flS (va_up pa n (some k)) (va_up ge n (mkg ge (some k))) (va_up hd n true) (n + 1) (n + 1)) (fwS (va_up dc n d) (va_up dl n true) (va_up ge n (mkg ge (some k))) (va_up su n (mksu ge su (some k) (nI 0) true)) (ends (va_up hd n true) (flS (va_up pa n (some k)) (va_up ge n (mkg ge (some k))) (va_up hd n true) (n + 1) (n + 1))) (n + 1))) := hD
    exact W.iret hx hb hr (fun t ht hW => ⟨⟨_, (), rfl, rfl, by show va_P D vwCl _ t.heap; rw [ht]; exact hP⟩, hS.F ht⟩) hS.2.2 dX3_delete_61
  · rw [hdl] at c34; cases c34
set_option maxHeartbeats 8000000 in
set_option maxRecDepth 100000 in
theorem cX3_delete_bad2a (l : Launch) (hlt : l.stackTraces = false) (D : va_G) (ct : Nat → ClassId) (r : Nat → Nat) (u : Nat → Nat) (sa : Nat → Nat → Nat) (a : Nat → Nat) (n : Nat) (dc : Nat → Nat) (pa : Nat → Option Nat) (va : Nat → Int32) (dl : Nat → Bool) (ge : Nat → Nat) (su : Nat → Int32) (dp : Int32) (lt : Int32) (ch : Nat → Int32) (ck : Nat → Int32) (h : Nat → Nat) (hd : Nat → Bool) (nl : Nat → Nat) (wi : Nat → Option Nat) (i : Nat) (d : Nat) (k : Nat) (hn : n ≤ 150) (hTd : ∀ k, dc k < 4) (hNl : ∀ k, nl k ≤ 151) (hi : i < 3) (hd4 : d < 4) (hk : k < n) (hbad : (decide (dc k = d) && ends hd nl k) = false) : vx_Met l yX3_delete wsX3_delete ({ frames := 7, cells := 1, slots := 6, locals := 120 } : Room) (bdPc D ct [.ref (r 0), .int (nI i), .int (nI d), .int (nI k)] (wR ct r a u sa ++ wT ct a n dc pa va dl ge su ++ wS ct (sa i) h dp lt ch ck ++ wH ct h hd nl wi)) bdQ (bdX eS) 1 6 (fun _ => False) := by
  refine vx_ofW (cc := cX3_delete) (maxL := 5) (ret := (some .int)) (by decide) rfl ?_
  intro p e s m args below meth c s₁ B hml ht9 hv
  obtain ⟨rfl, hP, hK, hT⟩ := hv
  have hx := B.exec
  have hb := B.bytes
  have hr := B.returns
  have hts := atoms_spec (ws := wsX3_delete) B.pre
  have hown : s.vm.findClass RX3 = some m.cls := findClass_of_methodNamed B.named
  have hlocks := B.notSynchronized
  have hl := lv_entry ([.ref (r 0), .int (nI i), .int (nI d), .int (nI k)]) (n := 5) (Nat.le_of_ble_eq_true rfl)
  rw [lg_entry_eq]
  generalize (lg_sl ([.ref (r 0), .int (nI i), .int (nI d), .int (nI k)]) ++ List.replicate (5 - (lg_sl ([.ref (r 0), .int (nI i), .int (nI d), .int (nI k)])).length) Slot.unset).toArray = ls at hl ⊢
  have hl : lv_has ls 5 [(0, .ref (r 0)), (1, .int (nI i)), (2, .int (nI d)), (3, .int (nI k))] := hl
  refine lv_aload_n hx hb dX3_delete_0 rfl (lv_at hl 0 rfl) ?_
  refine lv_iload_n hx hb dX3_delete_1 rfl (lv_at hl 1 rfl) ?_
  refine r_cVr (As := [.int (nI i)]) (rest := []) ⟨hx, hb, hml, hown, hts⟩ (cX3_storeAt_ok l D ct r u sa a i (by first | assumption | omega)) (cwV 1 hts gX3_delete_X3_storeAt rfl rfl rfl (by decide +kernel) ⟨Nat.le_of_ble_eq_true rfl, Nat.le_of_ble_eq_true rfl⟩) hK (hP.sub (ws' := wR ct r a u sa) [0, 1] rfl) 0 3 rfl rfl rfl hl.1 rfl (Nat.le_of_ble_eq_true rfl) dX3_delete_2 ⟨Nat.le_of_ble_eq_true rfl, Nat.le_of_ble_eq_true rfl⟩ ?_
  refine lv_astore (lv' := [(4, .ref ((sa i) 0)), (0, .ref (r 0)), (1, .int (nI i)), (2, .int (nI d)), (3, .int (nI k))]) hx hb dX3_delete_5 hl (by decide) rfl (fun ls hl => ?_)
  refine lv_aload_n hx hb dX3_delete_7 rfl (lv_at hl 1 rfl) ?_
  refine lv_iload_n hx hb dX3_delete_8 rfl (lv_at hl 3 rfl) ?_
  refine r_cVv (As := [.int (nI d)]) (rest := []) ⟨hx, hb, hml, hown, hts⟩ (cX3_checkDocument_ok l D ct r u sa a d (by first | assumption | omega)) (cwV 1 hts gX3_delete_X3_checkDocument rfl rfl rfl (by decide +kernel) ⟨Nat.le_of_ble_eq_true rfl, Nat.le_of_ble_eq_true rfl⟩) hK (hP.sub (ws' := wR ct r a u sa) [0, 1] rfl) 0 3 rfl rfl rfl hl.1 rfl (Nat.le_of_ble_eq_true rfl) dX3_delete_9 ⟨Nat.le_of_ble_eq_true rfl, Nat.le_of_ble_eq_true rfl⟩ ?_
  refine lv_aload_n hx hb dX3_delete_12 rfl (lv_at hl 1 rfl) ?_
  refine lv_iload_n hx hb dX3_delete_13 rfl (lv_at hl 4 rfl) ?_
  refine r_cVv (As := [.int (nI k)]) (rest := []) ⟨hx, hb, hml, hown, hts⟩ (cX3_checkRevision_ok l D ct r u sa a n dc pa va dl ge su k (by first | assumption | omega) (by first | assumption | omega)) (cwV 1 hts gX3_delete_X3_checkRevision rfl rfl rfl (by decide +kernel) ⟨Nat.le_of_ble_eq_true rfl, Nat.le_of_ble_eq_true rfl⟩) hK (hP.sub (ws' := wR ct r a u sa ++ wT ct a n dc pa va dl ge su) [0, 1, 2, 3, 4, 5, 6, 7, 8] rfl) 0 3 rfl rfl rfl hl.1 rfl (Nat.le_of_ble_eq_true rfl) dX3_delete_14 ⟨Nat.le_of_ble_eq_true rfl, Nat.le_of_ble_eq_true rfl⟩ ?_
  refine lv_aload_n hx hb dX3_delete_17 rfl (lv_at hl 1 rfl) ?_
  refine lv_aload hx hb dX3_delete_18 (lv_at hl 0 rfl) ?_
  refine lv_iload_n hx hb dX3_delete_20 rfl (lv_at hl 3 rfl) ?_
  refine lv_iload_n hx hb dX3_delete_21 rfl (lv_at hl 4 rfl) ?_
  exact r_xV (As := [.ref ((sa i) 0), .int (nI d), .int (nI k)]) (rest := []) ⟨hx, hb, hml, hown, hts⟩ (cX3_checkLeaf_bad l hlt D ct r u sa a n dc pa va dl ge su (sa i) dp lt ch ck h hd nl wi d k (by first | assumption | omega) (by first | assumption | omega) (by first | assumption | omega) (by first | assumption | omega) (by first | assumption | omega) (by first | assumption | omega)) (cwV 3 hts gX3_delete_X3_checkLeaf rfl rfl rfl (by decide +kernel) ⟨Nat.le_of_ble_eq_true rfl, Nat.le_of_ble_eq_true rfl⟩) hK (hP.sub (ws' := wR ct r a u sa ++ wT ct a n dc pa va dl ge su ++ wS ct (sa i) h dp lt ch ck ++ wH ct h hd nl wi) [0, 1, 2, 3, 4, 5, 6, 7, 8, 9, 10, 11, 12, 13, 14, 15] rfl) hT 0 3 rfl rfl rfl hl.1 rfl (Nat.le_of_ble_eq_true rfl) dX3_delete_22 ⟨Nat.le_of_ble_eq_true rfl, Nat.le_of_ble_eq_true rfl⟩ ht9 hlocks
set_option maxHeartbeats 8000000 in
set_option maxRecDepth 100000 in
theorem cX3_delete_bad2b (l : Launch) (hlt : l.stackTraces = false) (D : va_G) (ct : Nat → ClassId) (r : Nat → Nat) (u : Nat → Nat) (sa : Nat → Nat → Nat) (a : Nat → Nat) (n : Nat) (dc : Nat → Nat) (pa : Nat → Option Nat) (va : Nat → Int32) (dl : Nat → Bool) (ge : Nat → Nat) (su : Nat → Int32) (dp : Int32) (lt : Int32) (ch : Nat → Int32) (ck : Nat → Int32) (h : Nat → Nat) (hd : Nat → Bool) (nl : Nat → Nat) (wi : Nat → Option Nat) (i : Nat) (d : Nat) (k : Nat) (hn : n ≤ 150) (hTd : ∀ k, dc k < 4) (hNl : ∀ k, nl k ≤ 151) (hi : i < 3) (hd4 : d < 4) (hk : k < n) (hdk : dc k = d) (hlf : ends hd nl k = true) (hdl : dl k = true) : vx_Met l yX3_delete wsX3_delete ({ frames := 7, cells := 1, slots := 6, locals := 120 } : Room) (bdPc D ct [.ref (r 0), .int (nI i), .int (nI d), .int (nI k)] (wR ct r a u sa ++ wT ct a n dc pa va dl ge su ++ wS ct (sa i) h dp lt ch ck ++ wH ct h hd nl wi)) bdQ (bdX eS) 1 6 (fun _ => False) := by
  refine vx_ofW (cc := cX3_delete) (maxL := 5) (ret := (some .int)) (by decide) rfl ?_
  intro p e s m args below meth c s₁ B hml ht9 hv
  obtain ⟨rfl, hP, hK, hT⟩ := hv
  have hx := B.exec
  have hb := B.bytes
  have hr := B.returns
  have hts := atoms_spec (ws := wsX3_delete) B.pre
  have hown : s.vm.findClass RX3 = some m.cls := findClass_of_methodNamed B.named
  have hlocks := B.notSynchronized
  have hl := lv_entry ([.ref (r 0), .int (nI i), .int (nI d), .int (nI k)]) (n := 5) (Nat.le_of_ble_eq_true rfl)
  rw [lg_entry_eq]
  generalize (lg_sl ([.ref (r 0), .int (nI i), .int (nI d), .int (nI k)]) ++ List.replicate (5 - (lg_sl ([.ref (r 0), .int (nI i), .int (nI d), .int (nI k)])).length) Slot.unset).toArray = ls at hl ⊢
  have hl : lv_has ls 5 [(0, .ref (r 0)), (1, .int (nI i)), (2, .int (nI d)), (3, .int (nI k))] := hl
  refine lv_aload_n hx hb dX3_delete_0 rfl (lv_at hl 0 rfl) ?_
  refine lv_iload_n hx hb dX3_delete_1 rfl (lv_at hl 1 rfl) ?_
  refine r_cVr (As := [.int (nI i)]) (rest := []) ⟨hx, hb, hml, hown, hts⟩ (cX3_storeAt_ok l D ct r u sa a i (by first | assumption | omega)) (cwV 1 hts gX3_delete_X3_storeAt rfl rfl rfl (by decide +kernel) ⟨Nat.le_of_ble_eq_true rfl, Nat.le_of_ble_eq_true rfl⟩) hK (hP.sub (ws' := wR ct r a u sa) [0, 1] rfl) 0 3 rfl rfl rfl hl.1 rfl (Nat.le_of_ble_eq_true rfl) dX3_delete_2 ⟨Nat.le_of_ble_eq_true rfl, Nat.le_of_ble_eq_true rfl⟩ ?_
  refine lv_astore (lv' := [(4, .ref ((sa i) 0)), (0, .ref (r 0)), (1, .int (nI i)), (2, .int (nI d)), (3, .int (nI k))]) hx hb dX3_delete_5 hl (by decide) rfl (fun ls hl => ?_)
  refine lv_aload_n hx hb dX3_delete_7 rfl (lv_at hl 1 rfl) ?_
  refine lv_iload_n hx hb dX3_delete_8 rfl (lv_at hl 3 rfl) ?_
  refine r_cVv (As := [.int (nI d)]) (rest := []) ⟨hx, hb, hml, hown, hts⟩ (cX3_checkDocument_ok l D ct r u sa a d (by first | assumption | omega)) (cwV 1 hts gX3_delete_X3_checkDocument rfl rfl rfl (by decide +kernel) ⟨Nat.le_of_ble_eq_true rfl, Nat.le_of_ble_eq_true rfl⟩) hK (hP.sub (ws' := wR ct r a u sa) [0, 1] rfl) 0 3 rfl rfl rfl hl.1 rfl (Nat.le_of_ble_eq_true rfl) dX3_delete_9 ⟨Nat.le_of_ble_eq_true rfl, Nat.le_of_ble_eq_true rfl⟩ ?_
  refine lv_aload_n hx hb dX3_delete_12 rfl (lv_at hl 1 rfl) ?_
  refine lv_iload_n hx hb dX3_delete_13 rfl (lv_at hl 4 rfl) ?_
  refine r_cVv (As := [.int (nI k)]) (rest := []) ⟨hx, hb, hml, hown, hts⟩ (cX3_checkRevision_ok l D ct r u sa a n dc pa va dl ge su k (by first | assumption | omega) (by first | assumption | omega)) (cwV 1 hts gX3_delete_X3_checkRevision rfl rfl rfl (by decide +kernel) ⟨Nat.le_of_ble_eq_true rfl, Nat.le_of_ble_eq_true rfl⟩) hK (hP.sub (ws' := wR ct r a u sa ++ wT ct a n dc pa va dl ge su) [0, 1, 2, 3, 4, 5, 6, 7, 8] rfl) 0 3 rfl rfl rfl hl.1 rfl (Nat.le_of_ble_eq_true rfl) dX3_delete_14 ⟨Nat.le_of_ble_eq_true rfl, Nat.le_of_ble_eq_true rfl⟩ ?_
  refine lv_aload_n hx hb dX3_delete_17 rfl (lv_at hl 1 rfl) ?_
  refine lv_aload hx hb dX3_delete_18 (lv_at hl 0 rfl) ?_
  refine lv_iload_n hx hb dX3_delete_20 rfl (lv_at hl 3 rfl) ?_
  refine lv_iload_n hx hb dX3_delete_21 rfl (lv_at hl 4 rfl) ?_
  refine r_cVv (As := [.ref ((sa i) 0), .int (nI d), .int (nI k)]) (rest := []) ⟨hx, hb, hml, hown, hts⟩ (cX3_checkLeaf_ok l D ct r u sa a n dc pa va dl ge su (sa i) dp lt ch ck h hd nl wi d k (by first | assumption | omega) (by first | assumption | omega) (by first | assumption | omega) (by first | assumption | omega) (by first | assumption | omega) (by first | assumption | omega) (by first | assumption | omega)) (cwV 3 hts gX3_delete_X3_checkLeaf rfl rfl rfl (by decide +kernel) ⟨Nat.le_of_ble_eq_true rfl, Nat.le_of_ble_eq_true rfl⟩) hK (hP.sub (ws' := wR ct r a u sa ++ wT ct a n dc pa va dl ge su ++ wS ct (sa i) h dp lt ch ck ++ wH ct h hd nl wi) [0, 1, 2, 3, 4, 5, 6, 7, 8, 9, 10, 11, 12, 13, 14, 15] rfl) 0 3 rfl rfl rfl hl.1 rfl (Nat.le_of_ble_eq_true rfl) dX3_delete_22 ⟨Nat.le_of_ble_eq_true rfl, Nat.le_of_ble_eq_true rfl⟩ ?_
  refine lv_aload_n hx hb dX3_delete_25 rfl (lv_at hl 1 rfl) ?_
  refine va_get (D := D) (ci := 3) (v := .ref (a 0)) (C := RX3) (T := TX3) (N := 3) hx hb hts (fun _ h => List.mem_cons_of_mem _ (List.mem_append_left _ (List.mem_append_left _ (List.mem_append_left _ (List.mem_append_left _ (List.mem_append_left _ (List.mem_append_right _ h))))))) hown hK.1 hP 0 rfl rfl 0 (by decide) (hts (.fieldLink RX3 10 "RevisionStores" "tree" "LRevisionStores$Tree;") (List.mem_of_getElem? (i := 3) rfl)) (fun _ h9 => h9) rfl dX3_delete_26 ?_
  refine va_getN (D := D) (ci := 2) (v := .ref (a 4)) (C := RX2) (T := TX2) (N := 7) hx hb hts (fun _ h => List.mem_cons_of_mem _ (List.mem_append_left _ (List.mem_append_left _ (List.mem_append_left _ (List.mem_append_left _ (List.mem_append_right _ h)))))) hown hK.1 hP 2 rfl rfl 3 (by decide) (va_Nw.use rfl (hK.2 _ (List.mem_of_getElem? (i := 2) rfl))) (fun _ h9 => h9) rfl dX3_delete_29 ?_
  refine lv_iload_n hx hb dX3_delete_32 rfl (lv_at hl 4 rfl) ?_
  refine r_zald (j := k) (v := bI (dl k)) hx hb hK.1 hP 6 1 rfl rfl (by omega) (by first | decide | omega) rfl dX3_delete_33 ?_
  refine r_if_eqB (x := dl k) (tgt := 47) hx hb dX3_delete_34 (by decide) (fun c34 => ?_) (fun c34 => ?_)
  · rw [hdl] at c34; cases c34
  · exact r_thrS (cc := cX3_delete) (text := "revision is a deletion") (is := 69) (rest := []) hx hb hlt hT hown ((hts (.classLink RX3 67 "java/lang/IllegalStateException") (List.mem_of_getElem? (i := 1) rfl))) ((hts (.initialized "java/lang/IllegalStateException") (List.mem_of_getElem? (i := 2) rfl))) (fun w h => hts w (List.mem_cons_of_mem _ (List.mem_append_left _ (List.mem_append_right _ h)))) (by decide) (by rw [hml]; exact hl.1) dX3_delete_37 dX3_delete_40 dX3_delete_41 dX3_delete_43 dX3_delete_46 ht9 hlocks (by decide) (by decide) (by decide) (by decide)
set_option maxHeartbeats 8000000 in
set_option maxRecDepth 100000 in
theorem cX3_setDepth_ok (l : Launch) (D : va_G) (ct : Nat → ClassId) (r : Nat → Nat) (u : Nat → Nat) (sa : Nat → Nat → Nat) (a : Nat → Nat) (n : Nat) (dc : Nat → Nat) (pa : Nat → Option Nat) (va : Nat → Int32) (dl : Nat → Bool) (ge : Nat → Nat) (su : Nat → Int32) (dp : Int32) (lt : Int32) (ch : Nat → Int32) (ck : Nat → Int32) (h : Nat → Nat) (hd : Nat → Bool) (nl : Nat → Nat) (wi : Nat → Option Nat) (i : Nat) (x : Nat) (hn : n ≤ 150) (hTg : ∀ k, ge k ≤ 150) (hNl : ∀ k, nl k ≤ 151) (hi : i < 3) (hx1 : 1 ≤ x) (hx20 : x ≤ 20) (sz : Nat) : Met l yX3_setDepth wsX3_setDepth ({ frames := 2, cells := 0, slots := 0, locals := 45 } : Room) (wrPc D ct [.ref (r 0), .int (nI i), .int (nI x)] (wR ct r a u sa ++ wT ct a n dc pa va dl ge su ++ wS ct (sa i) h dp lt ch ck ++ wH ct h hd nl wi) sz) (wqI D (nI (fct (stC hd nl ge (nI x)) n)) (wR ct r a u sa ++ wT ct a n dc pa va dl ge su ++ wS ct (sa i) h (nI x) lt ch ck ++ wH ct h (stm hd nl ge (nI x) n) nl wi) (va_A (wR ct r a u sa ++ wT ct a n dc pa va dl ge su ++ wS ct (sa i) h dp lt ch ck ++ wH ct h hd nl wi) sz)) 0 0 (va_A (wR ct r a u sa ++ wT ct a n dc pa va dl ge su ++ wS ct (sa i) h dp lt ch ck ++ wH ct h hd nl wi) sz) := by
  refine Met.ofW (cc := cX3_setDepth) (maxL := 4) (ret := (some .int)) (by decide) rfl ?_
  intro p e s m args below meth c s₁ B hml hv
  obtain ⟨rfl, hsz, hP, hK, hD0⟩ := hv
  have hx := B.exec
  have hb := B.bytes
  have hr := B.returns
  have hts := atoms_spec (ws := wsX3_setDepth) B.pre
  have hown : s.vm.findClass RX3 = some m.cls := findClass_of_methodNamed B.named
  have hlocks := B.notSynchronized
  subst hsz
  have hD := hD0.self (sz := s.heap.size)
  generalize hAe : va_A (wR ct r a u sa ++ wT ct a n dc pa va dl ge su ++ wS ct (sa i) h dp lt ch ck ++ wH ct h hd nl wi) s.heap.size = A at hD ⊢
  have hA : ∀ q : Nat, s.heap.size ≤ q → A q := fun q h => by rw [← hAe]; exact Or.inr h
  have hS : va_S A s.heap s.heap [] := va_S.rf
  have hP : va_P D vwCl (wR ct r a u sa ++ wT ct a n dc pa va dl ge su ++ wS ct (sa i) h dp lt ch ck ++ wH ct h hd nl wi) s.heap := hP
  clear hAe hD0
  have hl := lv_entry ([.ref (r 0), .int (nI i), .int (nI x)]) (n := 4) (Nat.le_of_ble_eq_true rfl)
  rw [lg_entry_eq]
  generalize (lg_sl ([.ref (r 0), .int (nI i), .int (nI x)]) ++ List.replicate (4 - (lg_sl ([.ref (r 0), .int (nI i), .int (nI x)])).length) Slot.unset).toArray = ls at hl ⊢
  have hl : lv_has ls 4 [(0, .ref (r 0)), (1, .int (nI i)), (2, .int (nI x))] := hl
  have hH0 : s.heap.size ≤ s.heap.size := Nat.le_refl _
  refine lv_aload_n hx hb dX3_setDepth_0 rfl (lv_at hl 0 rfl) ?_
  refine lv_iload_n hx hb dX3_setDepth_1 rfl (lv_at hl 1 rfl) ?_
  refine r_cVr (As := [.int (nI i)]) (rest := []) ⟨hx, hb, hml, hown, hts⟩ (cX3_storeAt_ok l D ct r u sa a i (by first | assumption | omega)) (cwV 1 hts gX3_setDepth_X3_storeAt rfl rfl rfl (by decide +kernel) ⟨Nat.le_of_ble_eq_true rfl, Nat.le_of_ble_eq_true rfl⟩) hK (hP.sub (ws' := wR ct r a u sa) [0, 1] rfl) 0 3 rfl rfl rfl hl.1 rfl (Nat.le_of_ble_eq_true rfl) dX3_setDepth_2 ⟨Nat.le_of_ble_eq_true rfl, Nat.le_of_ble_eq_true rfl⟩ ?_
  refine lv_astore_n (lv' := [(3, .ref ((sa i) 0)), (0, .ref (r 0)), (1, .int (nI i)), (2, .int (nI x))]) hx hb dX3_setDepth_5 rfl hl (by decide) rfl (fun ls hl => ?_)
  refine lv_iload_n hx hb dX3_setDepth_6 rfl (lv_at hl 3 rfl) ?_
  refine lv_iconst (v := nI 1) hx hb dX3_setDepth_7 (by decide) ?_
  refine r_icmp_ltN hx hb (x := x) (y := 1) (by first | omega | decide) (by first | omega | decide) (tgt := 17) dX3_setDepth_8 (by decide) (fun c8 => ?_) (fun c8 => ?_)
  · omega
  · refine lv_iload_n hx hb dX3_setDepth_11 rfl (lv_at hl 3 rfl) ?_
    refine lv_bipush (v := nI 20) hx hb dX3_setDepth_12 (by decide) ?_
    refine r_icmp_leN hx hb (x := x) (y := 20) (by first | omega | decide) (by first | omega | decide) (tgt := 27) dX3_setDepth_14 (by decide) (fun c14 => ?_) (fun c14 => ?_)
    · refine lv_aload_n hx hb dX3_setDepth_27 rfl (lv_at hl 0 rfl) ?_
      refine lv_iload_n hx hb dX3_setDepth_28 rfl (lv_at hl 3 rfl) ?_
      refine va_putN (D := D) (ci := 1) (v := .int (nI x)) (ty := .int) (C := RX1) (T := TX1) (N := 5) hx hb hts (fun _ h => List.mem_cons_of_mem _ (List.mem_append_left _ (List.mem_append_left _ (List.mem_append_left _ (List.mem_append_left _ (List.mem_append_left _ (List.mem_append_right _ h))))))) tyX1 tyX1_ok nmX1 hown hK.1 hP hD hS 9 rfl rfl 1 (by decide) (va_Nw.use rfl (hK.2 _ (List.mem_of_getElem? (i := 3) rfl))) (fun _ h9 => h9) rfl (by decide +kernel) rfl rfl (Nat.le_of_ble_eq_true rfl) dX3_setDepth_29 (fun H locs hP hD hS => ?_)
      have hP : va_P D vwCl (wR ct r a u sa ++ wT ct a n dc pa va dl ge su ++ wS ct (sa i) h (nI x) lt ch ck ++ wH ct h hd nl wi) H := hP
      have hD : va_D A (wR ct r a u sa ++ wT ct a n dc pa va dl ge su ++ wS ct (sa i) h (nI x) lt ch ck ++ wH ct h hd nl wi) := hD
      refine lv_aload_n hx hb dX3_setDepth_32 rfl (lv_at hl 0 rfl) ?_
      refine va_getN (D := D) (ci := 1) (v := .ref (h 0)) (C := RX1) (T := TX1) (N := 5) hx hb hts (fun _ h => List.mem_cons_of_mem _ (List.mem_append_left _ (List.mem_append_left _ (List.mem_append_left _ (List.mem_append_left _ (List.mem_append_left _ (List.mem_append_right _ h))))))) hown hK.1 hP 9 rfl rfl 0 (by decide) (va_Nw.use rfl (hK.2 _ (List.mem_of_getElem? (i := 4) rfl))) (fun _ h9 => h9) rfl dX3_setDepth_33 ?_
      refine lv_aload_n hx hb dX3_setDepth_36 rfl (lv_at hl 1 rfl) ?_
      refine va_get (D := D) (ci := 3) (v := .ref (a 0)) (C := RX3) (T := TX3) (N := 3) hx hb hts (fun _ h => List.mem_cons_of_mem _ (List.mem_append_left _ (List.mem_append_left _ (List.mem_append_left _ (List.mem_append_left _ (List.mem_append_right _ h)))))) hown hK.1 hP 0 rfl rfl 0 (by decide) (hts (.fieldLink RX3 10 "RevisionStores" "tree" "LRevisionStores$Tree;") (List.mem_of_getElem? (i := 3) rfl)) (fun _ h9 => h9) rfl dX3_setDepth_37 ?_
      refine lv_iload_n hx hb dX3_setDepth_40 rfl (lv_at hl 3 rfl) ?_
      refine r_wVi (As := [.ref (a 0), .int (nI x)]) (rest := []) ⟨hx, hb, hml, hown, hts⟩ (cX0_stem_ok l D ct h hd nl wi a n dc pa va dl ge su (nI x) (by first | assumption | omega) (by first | assumption | omega) (by first | assumption | omega) H.size) (cwV 2 hts gX3_setDepth_X0_stem rfl rfl rfl (by decide +kernel) ⟨Nat.le_of_ble_eq_true rfl, Nat.le_of_ble_eq_true rfl⟩) hK hP hD hS hA [12, 13, 14, 15, 2, 3, 4, 5, 6, 7, 8] rfl rfl rfl 0 0 rfl rfl rfl hl.1 rfl (Nat.le_of_ble_eq_true rfl) dX3_setDepth_41 ⟨Nat.le_of_ble_eq_true rfl, Nat.le_of_ble_eq_true rfl⟩ (fun H locs hP hD hS => ?_)
      have hP : va_P D vwCl (wR ct r a u sa ++ wT ct a n dc pa va dl ge su ++ wS ct (sa i) h (nI x) lt ch ck ++ wH ct h (stm hd nl ge (nI x) n) nl wi) H := hP
      have hD : va_D A (wR ct r a u sa ++ wT ct a n dc pa va dl ge su ++ wS ct (sa i) h (nI x) lt ch ck ++ wH ct h (stm hd nl ge (nI x) n) nl wi) := hD
      exact W.iret hx hb hr (fun t ht hW => ⟨⟨_, (), rfl, rfl, by show va_P D vwCl _ t.heap; rw [ht]; exact hP⟩, hS.F ht⟩) hS.2.2 dX3_setDepth_44
    · omega
set_option maxHeartbeats 8000000 in
set_option maxRecDepth 100000 in
theorem cX3_wipe_ok (l : Launch) (D : va_G) (ct : Nat → ClassId) (r : Nat → Nat) (u : Nat → Nat) (sa : Nat → Nat → Nat) (a : Nat → Nat) (n : Nat) (dc : Nat → Nat) (pa : Nat → Option Nat) (va : Nat → Int32) (dl : Nat → Bool) (ge : Nat → Nat) (su : Nat → Int32) (dp : Int32) (lt : Int32) (ch : Nat → Int32) (ck : Nat → Int32) (h : Nat → Nat) (hd : Nat → Bool) (nl : Nat → Nat) (wi : Nat → Option Nat) (i : Nat) (hn : n ≤ 150) (hTd : ∀ k, dc k < 4) (hTg : ∀ k, ge k ≤ 150) (hTp : ∀ k j, k < n → pa k = some j → j < k) (hi : i < 3) (sz : Nat) : Met l yX3_wipe wsX3_wipe ({ frames := 5, cells := 0, slots := 0, locals := 108 } : Room) (wrPc D ct [.ref (r 0), .int (nI i)] (wR ct r a u sa ++ wT ct a n dc pa va dl ge su ++ wS ct (sa i) h dp lt ch ck ++ wH ct h hd nl wi) sz) (wqI D (nI (fct hd n)) (wR ct r a u sa ++ wT ct a n dc pa va dl ge su ++ wS ct (sa i) h dp (nI 0) (fun _ => nI 0) (fun _ => nI 0) ++ wH ct h (rem hd 150) (flS pa ge (rem hd 150) n n) (fwS dc dl ge su (ends (rem hd 150) (flS pa ge (rem hd 150) n n)) n)) (va_A (wR ct r a u sa ++ wT ct a n dc pa va dl ge su ++ wS ct (sa i) h dp lt ch ck ++ wH ct h hd nl wi) sz)) 0 0 (va_A (wR ct r a u sa ++ wT ct a n dc pa va dl ge su ++ wS ct (sa i) h dp lt ch ck ++ wH ct h hd nl wi) sz) := by
  refine Met.ofW (cc := cX3_wipe) (maxL := 4) (ret := (some .int)) (by decide) rfl ?_
  intro p e s m args below meth c s₁ B hml hv
  obtain ⟨rfl, hsz, hP, hK, hD0⟩ := hv
  have hx := B.exec
  have hb := B.bytes
  have hr := B.returns
  have hts := atoms_spec (ws := wsX3_wipe) B.pre
  have hown : s.vm.findClass RX3 = some m.cls := findClass_of_methodNamed B.named
  have hlocks := B.notSynchronized
  subst hsz
  have hD := hD0.self (sz := s.heap.size)
  generalize hAe : va_A (wR ct r a u sa ++ wT ct a n dc pa va dl ge su ++ wS ct (sa i) h dp lt ch ck ++ wH ct h hd nl wi) s.heap.size = A at hD ⊢
  have hA : ∀ q : Nat, s.heap.size ≤ q → A q := fun q h => by rw [← hAe]; exact Or.inr h
  have hS : va_S A s.heap s.heap [] := va_S.rf
  have hP : va_P D vwCl (wR ct r a u sa ++ wT ct a n dc pa va dl ge su ++ wS ct (sa i) h dp lt ch ck ++ wH ct h hd nl wi) s.heap := hP
  clear hAe hD0
  have hl := lv_entry ([.ref (r 0), .int (nI i)]) (n := 4) (Nat.le_of_ble_eq_true rfl)
  rw [lg_entry_eq]
  generalize (lg_sl ([.ref (r 0), .int (nI i)]) ++ List.replicate (4 - (lg_sl ([.ref (r 0), .int (nI i)])).length) Slot.unset).toArray = ls at hl ⊢
  have hl : lv_has ls 4 [(0, .ref (r 0)), (1, .int (nI i))] := hl
  have hH0 : s.heap.size ≤ s.heap.size := Nat.le_refl _
  refine lv_aload_n hx hb dX3_wipe_0 rfl (lv_at hl 0 rfl) ?_
  refine lv_iload_n hx hb dX3_wipe_1 rfl (lv_at hl 1 rfl) ?_
  refine r_cVr (As := [.int (nI i)]) (rest := []) ⟨hx, hb, hml, hown, hts⟩ (cX3_storeAt_ok l D ct r u sa a i (by first | assumption | omega)) (cwV 1 hts gX3_wipe_X3_storeAt rfl rfl rfl (by decide +kernel) ⟨Nat.le_of_ble_eq_true rfl, Nat.le_of_ble_eq_true rfl⟩) hK (hP.sub (ws' := wR ct r a u sa) [0, 1] rfl) 0 3 rfl rfl rfl hl.1 rfl (Nat.le_of_ble_eq_true rfl) dX3_wipe_2 ⟨Nat.le_of_ble_eq_true rfl, Nat.le_of_ble_eq_true rfl⟩ ?_
  refine lv_astore_n (lv' := [(2, .ref ((sa i) 0)), (0, .ref (r 0)), (1, .int (nI i))]) hx hb dX3_wipe_5 rfl hl (by decide) rfl (fun ls hl => ?_)
  refine lv_aload_n hx hb dX3_wipe_6 rfl (lv_at hl 0 rfl) ?_
  refine va_getN (D := D) (ci := 1) (v := .ref (h 0)) (C := RX1) (T := TX1) (N := 5) hx hb hts (fun _ h => List.mem_cons_of_mem _ (List.mem_append_left _ (List.mem_append_left _ (List.mem_append_left _ (List.mem_append_left _ (List.mem_append_right _ h)))))) hown hK.1 hP 9 rfl rfl 0 (by decide) (va_Nw.use rfl (hK.2 _ (List.mem_of_getElem? (i := 4) rfl))) (fun _ h9 => h9) rfl dX3_wipe_7 ?_
  refine lv_aload_n hx hb dX3_wipe_10 rfl (lv_at hl 1 rfl) ?_
  refine va_get (D := D) (ci := 3) (v := .ref (a 0)) (C := RX3) (T := TX3) (N := 3) hx hb hts (fun _ h => List.mem_cons_of_mem _ (List.mem_append_left _ (List.mem_append_left _ (List.mem_append_left _ (List.mem_append_right _ h))))) hown hK.1 hP 0 rfl rfl 0 (by decide) (hts (.fieldLink RX3 10 "RevisionStores" "tree" "LRevisionStores$Tree;") (List.mem_of_getElem? (i := 1) rfl)) (fun _ h9 => h9) rfl dX3_wipe_11 ?_
  refine r_cV (As := [.ref (a 0)]) (rest := []) ⟨hx, hb, hml, hown, hts⟩ (cX0_countAll_ok l D ct h hd nl wi a n dc pa va dl ge su (by first | assumption | omega)) (cwV 1 hts gX3_wipe_X0_countAll rfl rfl rfl (by decide +kernel) ⟨Nat.le_of_ble_eq_true rfl, Nat.le_of_ble_eq_true rfl⟩) hK (hP.sub (ws' := wH ct h hd nl wi ++ wT ct a n dc pa va dl ge su) [12, 13, 14, 15, 2, 3, 4, 5, 6, 7, 8] rfl) 0 0 rfl rfl rfl hl.1 rfl (Nat.le_of_ble_eq_true rfl) dX3_wipe_14 ⟨Nat.le_of_ble_eq_true rfl, Nat.le_of_ble_eq_true rfl⟩ ?_
  refine lv_istore_n (lv' := [(3, .int (nI (fct hd n))), (2, .ref ((sa i) 0)), (0, .ref (r 0)), (1, .int (nI i))]) hx hb dX3_wipe_17 rfl hl (by decide) rfl (fun ls hl => ?_)
  refine lv_aload_n hx hb dX3_wipe_18 rfl (lv_at hl 1 rfl) ?_
  refine lv_aload_n hx hb dX3_wipe_19 rfl (lv_at hl 2 rfl) ?_
  refine va_get (D := D) (ci := 3) (v := .ref (a 0)) (C := RX3) (T := TX3) (N := 3) hx hb hts (fun _ h => List.mem_cons_of_mem _ (List.mem_append_left _ (List.mem_append_left _ (List.mem_append_left _ (List.mem_append_right _ h))))) hown hK.1 hP 0 rfl rfl 0 (by decide) (hts (.fieldLink RX3 10 "RevisionStores" "tree" "LRevisionStores$Tree;") (List.mem_of_getElem? (i := 1) rfl)) (fun _ h9 => h9) rfl dX3_wipe_20 ?_
  refine r_wVv (As := [.ref (a 0)]) (rest := []) ⟨hx, hb, hml, hown, hts⟩ (cX1_clear_ok l D ct (sa i) dp lt ch ck h hd nl wi a n dc pa va dl ge su (by first | assumption | omega) (by first | assumption | omega) (by first | assumption | omega) (by first | assumption | omega) s.heap.size) (cwV 1 hts gX3_wipe_X1_clear rfl rfl rfl (by decide +kernel) ⟨Nat.le_of_ble_eq_true rfl, Nat.le_of_ble_eq_true rfl⟩) hK hP hD hS hA [9, 10, 11, 12, 13, 14, 15, 2, 3, 4, 5, 6, 7, 8] rfl rfl rfl 0 1 rfl rfl rfl hl.1 rfl (Nat.le_of_ble_eq_true rfl) dX3_wipe_23 ⟨Nat.le_of_ble_eq_true rfl, Nat.le_of_ble_eq_true rfl⟩ (fun H locs hP hD hS => ?_)
  have hP : va_P D vwCl (wR ct r a u sa ++ wT ct a n dc pa va dl ge su ++ wS ct (sa i) h dp (nI 0) (fun _ => nI 0) (fun _ => nI 0) ++ wH ct h (rem hd 150) (flS pa ge (rem hd 150) n n) (fwS dc dl ge su (ends (rem hd 150) (flS pa ge (rem hd 150) n n)) n)) H := hP
  have hD : va_D A (wR ct r a u sa ++ wT ct a n dc pa va dl ge su ++ wS ct (sa i) h dp (nI 0) (fun _ => nI 0) (fun _ => nI 0) ++ wH ct h (rem hd 150) (flS pa ge (rem hd 150) n n) (fwS dc dl ge su (ends (rem hd 150) (flS pa ge (rem hd 150) n n)) n)) := hD
  refine lv_iload_n hx hb dX3_wipe_26 rfl (lv_at hl 0 rfl) ?_
  exact W.iret hx hb hr (fun t ht hW => ⟨⟨_, (), rfl, rfl, by show va_P D vwCl _ t.heap; rw [ht]; exact hP⟩, hS.F ht⟩) hS.2.2 dX3_wipe_27
