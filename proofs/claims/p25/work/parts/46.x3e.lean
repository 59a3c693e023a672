set_option maxHeartbeats 8000000 in
set_option maxRecDepth 100000 in
theorem cX3_documentOf_ok (l : Launch) (D : va_G) (ct : Nat → ClassId) (r : Nat → Nat) (u : Nat → Nat) (sa : Nat → Nat → Nat) (a : Nat → Nat) (n : Nat) (dc : Nat → Nat) (pa : Nat → Option Nat) (va : Nat → Int32) (dl : Nat → Bool) (ge : Nat → Nat) (su : Nat → Int32) (k : Nat) (hn : n ≤ 150) (hk : k < n) : Met l yX3_documentOf wsX3_documentOf ({ frames := 1, cells := 0, slots := 0, locals := 21 } : Room) (roPc D ct [.ref (r 0), .int (nI k)] (wR ct r a u sa ++ wT ct a n dc pa va dl ge su)) (rqI (nI (dc k))) 0 0 (fun _ => False) := by
  refine Met.ofW (cc := cX3_documentOf) (maxL := 2) (ret := (some .int)) (by decide) rfl ?_
  intro p e s m args below meth c s₁ B hml hv
  obtain ⟨rfl, hP, hK⟩ := hv
  have hx := B.exec
  have hb := B.bytes
  have hr := B.returns
  have hts := atoms_spec (ws := wsX3_documentOf) B.pre
  have hown : s.vm.findClass RX3 = some m.cls := findClass_of_methodNamed B.named
  have hlocks := B.notSynchronized
  have hl := lv_entry ([.ref (r 0), .int (nI k)]) (n := 2) (Nat.le_of_ble_eq_true rfl)
  rw [lg_entry_eq]
  generalize (lg_sl ([.ref (r 0), .int (nI k)]) ++ List.replicate (2 - (lg_sl ([.ref (r 0), .int (nI k)])).length) Slot.unset).toArray = ls at hl ⊢
  have hl : lv_has ls 2 [(0, .ref (r 0)), (1, .int (nI k))] := hl
  refine lv_aload_n hx hb dX3_documentOf_0 rfl (lv_at hl 0 rfl) ?_
  refine lv_iload_n hx hb dX3_documentOf_1 rfl (lv_at hl 1 rfl) ?_
  refine r_cVv (As := [.int (nI k)]) (rest := []) ⟨hx, hb, hml, hown, hts⟩ (cX3_checkRevision_ok l D ct r u sa a n dc pa va dl ge su k (by first | assumption | omega) (by first | assumption | omega)) (cwV 1 hts gX3_documentOf_X3_checkRevision rfl rfl rfl (by decide +kernel) ⟨Nat.le_of_ble_eq_true rfl, Nat.le_of_ble_eq_true rfl⟩) hK (hP.sub (ws' := wR ct r a u sa ++ wT ct a n dc pa va dl ge su) [0, 1, 2, 3, 4, 5, 6, 7, 8] rfl) 0 3 rfl rfl rfl hl.1 rfl (Nat.le_of_ble_eq_true rfl) dX3_documentOf_2 ⟨Nat.le_of_ble_eq_true rfl, Nat.le_of_ble_eq_true rfl⟩ ?_
  refine lv_aload_n hx hb dX3_documentOf_5 rfl (lv_at hl 0 rfl) ?_
  refine va_get (D := D) (ci := 3) (v := .ref (a 0)) (C := RX3) (T := TX3) (N := 3) hx hb hts (fun _ h => List.mem_cons_of_mem _ (List.mem_append_left _ (List.mem_append_left _ (List.mem_append_right _ h)))) hown hK.1 hP 0 rfl rfl 0 (by decide) (hts (.fieldLink RX3 10 "RevisionStores" "tree" "LRevisionStores$Tree;") (List.mem_of_getElem? (i := 1) rfl)) (fun _ h9 => h9) rfl dX3_documentOf_6 ?_
  refine va_getN (D := D) (ci := 2) (v := .ref (a 1)) (C := RX2) (T := TX2) (N := 7) hx hb hts (fun _ h => List.mem_cons_of_mem _ (List.mem_append_left _ (List.mem_append_right _ h))) hown hK.1 hP 2 rfl rfl 0 (by decide) (va_Nw.use rfl (hK.2 _ (List.mem_of_getElem? (i := 9) rfl))) (fun _ h9 => h9) rfl dX3_documentOf_9 ?_
  refine lv_iload_n hx hb dX3_documentOf_12 rfl (lv_at hl 1 rfl) ?_
  refine r_iald (j := k) (v := nI (dc k)) hx hb hK.1 hP 3 0 rfl rfl (by omega) (by first | decide | omega) rfl dX3_documentOf_13 ?_
  exact W.iret hx hb hr (fun t ht hW => ⟨_, rfl, rfl, ht⟩) (fun _ h => by cases h) dX3_documentOf_14
set_option maxHeartbeats 8000000 in
set_option maxRecDepth 100000 in
theorem cX3_parentOf_ok (l : Launch) (D : va_G) (ct : Nat → ClassId) (r : Nat → Nat) (u : Nat → Nat) (sa : Nat → Nat → Nat) (a : Nat → Nat) (n : Nat) (dc : Nat → Nat) (pa : Nat → Option Nat) (va : Nat → Int32) (dl : Nat → Bool) (ge : Nat → Nat) (su : Nat → Int32) (k : Nat) (hn : n ≤ 150) (hk : k < n) : Met l yX3_parentOf wsX3_parentOf ({ frames := 1, cells := 0, slots := 0, locals := 21 } : Room) (roPc D ct [.ref (r 0), .int (nI k)] (wR ct r a u sa ++ wT ct a n dc pa va dl ge su)) (rqI (eP (pa k))) 0 0 (fun _ => False) := by
  refine Met.ofW (cc := cX3_parentOf) (maxL := 2) (ret := (some .int)) (by decide) rfl ?_
  intro p e s m args below meth c s₁ B hml hv
  obtain ⟨rfl, hP, hK⟩ := hv
  have hx := B.exec
  have hb := B.bytes
  have hr := B.returns
  have hts := atoms_spec (ws := wsX3_parentOf) B.pre
  have hown : s.vm.findClass RX3 = some m.cls := findClass_of_methodNamed B.named
  have hlocks := B.notSynchronized
  have hl := lv_entry ([.ref (r 0), .int (nI k)]) (n := 2) (Nat.le_of_ble_eq_true rfl)
  rw [lg_entry_eq]
  generalize (lg_sl ([.ref (r 0), .int (nI k)]) ++ List.replicate (2 - (lg_sl ([.ref (r 0), .int (nI k)])).length) Slot.unset).toArray = ls at hl ⊢
  have hl : lv_has ls 2 [(0, .ref (r 0)), (1, .int (nI k))] := hl
  refine lv_aload_n hx hb dX3_parentOf_0 rfl (lv_at hl 0 rfl) ?_
  refine lv_iload_n hx hb dX3_parentOf_1 rfl (lv_at hl 1 rfl) ?_
  refine r_cVv (As := [.int (nI k)]) (rest := []) ⟨hx, hb, hml, hown, hts⟩ (cX3_checkRevision_ok l D ct r u sa a n dc pa va dl ge su k (by first | assumption | omega) (by first | assumption | omega)) (cwV 1 hts gX3_parentOf_X3_checkRevision rfl rfl rfl (by decide +kernel) ⟨Nat.le_of_ble_eq_true rfl, Nat.le_of_ble_eq_true rfl⟩) hK (hP.sub (ws' := wR ct r a u sa ++ wT ct a n dc pa va dl ge su) [0, 1, 2, 3, 4, 5, 6, 7, 8] rfl) 0 3 rfl rfl rfl hl.1 rfl (Nat.le_of_ble_eq_true rfl) dX3_parentOf_2 ⟨Nat.le_of_ble_eq_true rfl, Nat.le_of_ble_eq_true rfl⟩ ?_
  refine lv_aload_n hx hb dX3_parentOf_5 rfl (lv_at hl 0 rfl) ?_
  refine va_get (D := D) (ci := 3) (v := .ref (a 0)) (C := RX3) (T := TX3) (N := 3) hx hb hts (fun _ h => List.mem_cons_of_mem _ (List.mem_append_left _ (List.mem_append_left _ (List.mem_append_right _ h)))) hown hK.1 hP 0 rfl rfl 0 (by decide) (hts (.fieldLink RX3 10 "RevisionStores" "tree" "LRevisionStores$Tree;") (List.mem_of_getElem? (i := 1) rfl)) (fun _ h9 => h9) rfl dX3_parentOf_6 ?_
  refine va_getN (D := D) (ci := 2) (v := .ref (a 2)) (C := RX2) (T := TX2) (N := 7) hx hb hts (fun _ h => List.mem_cons_of_mem _ (List.mem_append_left _ (List.mem_append_right _ h))) hown hK.1 hP 2 rfl rfl 1 (by decide) (va_Nw.use rfl (hK.2 _ (List.mem_of_getElem? (i := 10) rfl))) (fun _ h9 => h9) rfl dX3_parentOf_9 ?_
  refine lv_iload_n hx hb dX3_parentOf_12 rfl (lv_at hl 1 rfl) ?_
  refine r_iald (j := k) (v := eP (pa k)) hx hb hK.1 hP 4 0 rfl rfl (by omega) (by first | decide | omega) rfl dX3_parentOf_13 ?_
  exact W.iret hx hb hr (fun t ht hW => ⟨_, rfl, rfl, ht⟩) (fun _ h => by cases h) dX3_parentOf_14
set_option maxHeartbeats 8000000 in
set_option maxRecDepth 100000 in
theorem cX3_generation_ok (l : Launch) (D : va_G) (ct : Nat → ClassId) (r : Nat → Nat) (u : Nat → Nat) (sa : Nat → Nat → Nat) (a : Nat → Nat) (n : Nat) (dc : Nat → Nat) (pa : Nat → Option Nat) (va : Nat → Int32) (dl : Nat → Bool) (ge : Nat → Nat) (su : Nat → Int32) (k : Nat) (hn : n ≤ 150) (hk : k < n) : Met l yX3_generation wsX3_generation ({ frames := 1, cells := 0, slots := 0, locals := 21 } : Room) (roPc D ct [.ref (r 0), .int (nI k)] (wR ct r a u sa ++ wT ct a n dc pa va dl ge su)) (rqI (nI (ge k))) 0 0 (fun _ => False) := by
  refine Met.ofW (cc := cX3_generation) (maxL := 2) (ret := (some .int)) (by decide) rfl ?_
  intro p e s m args below meth c s₁ B hml hv
  obtain ⟨rfl, hP, hK⟩ := hv
  have hx := B.exec
  have hb := B.bytes
  have hr := B.returns
  have hts := atoms_spec (ws := wsX3_generation) B.pre
  have hown : s.vm.findClass RX3 = some m.cls := findClass_of_methodNamed B.named
  have hlocks := B.notSynchronized
  have hl := lv_entry ([.ref (r 0), .int (nI k)]) (n := 2) (Nat.le_of_ble_eq_true rfl)
  rw [lg_entry_eq]
  generalize (lg_sl ([.ref (r 0), .int (nI k)]) ++ List.replicate (2 - (lg_sl ([.ref (r 0), .int (nI k)])).length) Slot.unset).toArray = ls at hl ⊢
  have hl : lv_has ls 2 [(0, .ref (r 0)), (1, .int (nI k))] := hl
  refine lv_aload_n hx hb dX3_generation_0 rfl (lv_at hl 0 rfl) ?_
  refine lv_iload_n hx hb dX3_generation_1 rfl (lv_at hl 1 rfl) ?_
  refine r_cVv (As := [.int (nI k)]) (rest := []) ⟨hx, hb, hml, hown, hts⟩ (cX3_checkRevision_ok l D ct r u sa a n dc pa va dl ge su k (by first | assumption | omega) (by first | assumption | omega)) (cwV 1 hts gX3_generation_X3_checkRevision rfl rfl rfl (by decide +kernel) ⟨Nat.le_of_ble_eq_true rfl, Nat.le_of_ble_eq_true rfl⟩) hK (hP.sub (ws' := wR ct r a u sa ++ wT ct a n dc pa va dl ge su) [0, 1, 2, 3, 4, 5, 6, 7, 8] rfl) 0 3 rfl rfl rfl hl.1 rfl (Nat.le_of_ble_eq_true rfl) dX3_generation_2 ⟨Nat.le_of_ble_eq_true rfl, Nat.le_of_ble_eq_true rfl⟩ ?_
  refine lv_aload_n hx hb dX3_generation_5 rfl (lv_at hl 0 rfl) ?_
  refine va_get (D := D) (ci := 3) (v := .ref (a 0)) (C := RX3) (T := TX3) (N := 3) hx hb hts (fun _ h => List.mem_cons_of_mem _ (List.mem_append_left _ (List.mem_append_left _ (List.mem_append_right _ h)))) hown hK.1 hP 0 rfl rfl 0 (by decide) (hts (.fieldLink RX3 10 "RevisionStores" "tree" "LRevisionStores$Tree;") (List.mem_of_getElem? (i := 1) rfl)) (fun _ h9 => h9) rfl dX3_generation_6 ?_
  refine va_getN (D := D) (ci := 2) (v := .ref (a 5)) (C := RX2) (T := TX2) (N := 7) hx hb hts (fun _ h => List.mem_cons_of_mem _ (List.mem_append_left _ (List.mem_append_right _ h))) hown hK.1 hP 2 rfl rfl 4 (by decide) (va_Nw.use rfl (hK.2 _ (List.mem_of_getElem? (i := 11) rfl))) (fun _ h9 => h9) rfl dX3_generation_9 ?_
  refine lv_iload_n hx hb dX3_generation_12 rfl (lv_at hl 1 rfl) ?_
  refine r_iald (j := k) (v := nI (ge k)) hx hb hK.1 hP 7 0 rfl rfl (by omega) (by first | decide | omega) rfl dX3_generation_13 ?_
  exact W.iret hx hb hr (fun t ht hW => ⟨_, rfl, rfl, ht⟩) (fun _ h => by cases h) dX3_generation_14
set_option maxHeartbeats 8000000 in
set_option maxRecDepth 100000 in
theorem cX3_sum_ok (l : Launch) (D : va_G) (ct : Nat → ClassId) (r : Nat → Nat) (u : Nat → Nat) (sa : Nat → Nat → Nat) (a : Nat → Nat) (n : Nat) (dc : Nat → Nat) (pa : Nat → Option Nat) (va : Nat → Int32) (dl : Nat → Bool) (ge : Nat → Nat) (su : Nat → Int32) (k : Nat) (hn : n ≤ 150) (hk : k < n) : Met l yX3_sum wsX3_sum ({ frames := 1, cells := 0, slots := 0, locals := 21 } : Room) (roPc D ct [.ref (r 0), .int (nI k)] (wR ct r a u sa ++ wT ct a n dc pa va dl ge su)) (rqI (su k)) 0 0 (fun _ => False) := by
  refine Met.ofW (cc := cX3_sum) (maxL := 2) (ret := (some .int)) (by decide) rfl ?_
  intro p e s m args below meth c s₁ B hml hv
  obtain ⟨rfl, hP, hK⟩ := hv
  have hx := B.exec
  have hb := B.bytes
  have hr := B.returns
  have hts := atoms_spec (ws := wsX3_sum) B.pre
  have hown : s.vm.findClass RX3 = some m.cls := findClass_of_methodNamed B.named
  have hlocks := B.notSynchronized
  have hl := lv_entry ([.ref (r 0), .int (nI k)]) (n := 2) (Nat.le_of_ble_eq_true rfl)
  rw [lg_entry_eq]
  generalize (lg_sl ([.ref (r 0), .int (nI k)]) ++ List.replicate (2 - (lg_sl ([.ref (r 0), .int (nI k)])).length) Slot.unset).toArray = ls at hl ⊢
  have hl : lv_has ls 2 [(0, .ref (r 0)), (1, .int (nI k))] := hl
  refine lv_aload_n hx hb dX3_sum_0 rfl (lv_at hl 0 rfl) ?_
  refine lv_iload_n hx hb dX3_sum_1 rfl (lv_at hl 1 rfl) ?_
  refine r_cVv (As := [.int (nI k)]) (rest := []) ⟨hx, hb, hml, hown, hts⟩ (cX3_checkRevision_ok l D ct r u sa a n dc pa va dl ge su k (by first | assumption | omega) (by first | assumption | omega)) (cwV 1 hts gX3_sum_X3_checkRevision rfl rfl rfl (by decide +kernel) ⟨Nat.le_of_ble_eq_true rfl, Nat.le_of_ble_eq_true rfl⟩) hK (hP.sub (ws' := wR ct r a u sa ++ wT ct a n dc pa va dl ge su) [0, 1, 2, 3, 4, 5, 6, 7, 8] rfl) 0 3 rfl rfl rfl hl.1 rfl (Nat.le_of_ble_eq_true rfl) dX3_sum_2 ⟨Nat.le_of_ble_eq_true rfl, Nat.le_of_ble_eq_true rfl⟩ ?_
  refine lv_aload_n hx hb dX3_sum_5 rfl (lv_at hl 0 rfl) ?_
  refine va_get (D := D) (ci := 3) (v := .ref (a 0)) (C := RX3) (T := TX3) (N := 3) hx hb hts (fun _ h => List.mem_cons_of_mem _ (List.mem_append_left _ (List.mem_append_left _ (List.mem_append_right _ h)))) hown hK.1 hP 0 rfl rfl 0 (by decide) (hts (.fieldLink RX3 10 "RevisionStores" "tree" "LRevisionStores$Tree;") (List.mem_of_getElem? (i := 1) rfl)) (fun _ h9 => h9) rfl dX3_sum_6 ?_
  refine va_getN (D := D) (ci := 2) (v := .ref (a 6)) (C := RX2) (T := TX2) (N := 7) hx hb hts (fun _ h => List.mem_cons_of_mem _ (List.mem_append_left _ (List.mem_append_right _ h))) hown hK.1 hP 2 rfl rfl 5 (by decide) (va_Nw.use rfl (hK.2 _ (List.mem_of_getElem? (i := 12) rfl))) (fun _ h9 => h9) rfl dX3_sum_9 ?_
  refine lv_iload_n hx hb dX3_sum_12 rfl (lv_at hl 1 rfl) ?_
  refine r_iald (j := k) (v := su k) hx hb hK.1 hP 8 0 rfl rfl (by omega) (by first | decide | omega) rfl dX3_sum_13 ?_
  exact W.iret hx hb hr (fun t ht hW => ⟨_, rfl, rfl, ht⟩) (fun _ h => by cases h) dX3_sum_14
set_option maxHeartbeats 8000000 in
set_option maxRecDepth 100000 in
theorem cX3_valueOf_ok (l : Launch) (D : va_G) (ct : Nat → ClassId) (r : Nat → Nat) (u : Nat → Nat) (sa : Nat → Nat → Nat) (a : Nat → Nat) (n : Nat) (dc : Nat → Nat) (pa : Nat → Option Nat) (va : Nat → Int32) (dl : Nat → Bool) (ge : Nat → Nat) (su : Nat → Int32) (k : Nat) (hn : n ≤ 150) (hk : k < n) : Met l yX3_valueOf wsX3_valueOf ({ frames := 1, cells := 0, slots := 0, locals := 21 } : Room) (roPc D ct [.ref (r 0), .int (nI k)] (wR ct r a u sa ++ wT ct a n dc pa va dl ge su)) (rqI (if dl k = true then -1 else va k)) 0 0 (fun _ => False) := by
  refine Met.ofW (cc := cX3_valueOf) (maxL := 2) (ret := (some .int)) (by decide) rfl ?_
  intro p e s m args below meth c s₁ B hml hv
  obtain ⟨rfl, hP, hK⟩ := hv
  have hx := B.exec
  have hb := B.bytes
  have hr := B.returns
  have hts := atoms_spec (ws := wsX3_valueOf) B.pre
  have hown : s.vm.findClass RX3 = some m.cls := findClass_of_methodNamed B.named
  have hlocks := B.notSynchronized
  have hl := lv_entry ([.ref (r 0), .int (nI k)]) (n := 2) (Nat.le_of_ble_eq_true rfl)
  rw [lg_entry_eq]
  generalize (lg_sl ([.ref (r 0), .int (nI k)]) ++ List.replicate (2 - (lg_sl ([.ref (r 0), .int (nI k)])).length) Slot.unset).toArray = ls at hl ⊢
  have hl : lv_has ls 2 [(0, .ref (r 0)), (1, .int (nI k))] := hl
  refine lv_aload_n hx hb dX3_valueOf_0 rfl (lv_at hl 0 rfl) ?_
  refine lv_iload_n hx hb dX3_valueOf_1 rfl (lv_at hl 1 rfl) ?_
  refine r_cVv (As := [.int (nI k)]) (rest := []) ⟨hx, hb, hml, hown, hts⟩ (cX3_checkRevision_ok l D ct r u sa a n dc pa va dl ge su k (by first | assumption | omega) (by first | assumption | omega)) (cwV 1 hts gX3_valueOf_X3_checkRevision rfl rfl rfl (by decide +kernel) ⟨Nat.le_of_ble_eq_true rfl, Nat.le_of_ble_eq_true rfl⟩) hK (hP.sub (ws' := wR ct r a u sa ++ wT ct a n dc pa va dl ge su) [0, 1, 2, 3, 4, 5, 6, 7, 8] rfl) 0 3 rfl rfl rfl hl.1 rfl (Nat.le_of_ble_eq_true rfl) dX3_valueOf_2 ⟨Nat.le_of_ble_eq_true rfl, Nat.le_of_ble_eq_true rfl⟩ ?_
  refine lv_aload_n hx hb dX3_valueOf_5 rfl (lv_at hl 0 rfl) ?_
  refine va_get (D := D) (ci := 3) (v := .ref (a 0)) (C := RX3) (T := TX3) (N := 3) hx hb hts (fun _ h => List.mem_cons_of_mem _ (List.mem_append_left _ (List.mem_append_left _ (List.mem_append_right _ h)))) hown hK.1 hP 0 rfl rfl 0 (by decide) (hts (.fieldLink RX3 10 "RevisionStores" "tree" "LRevisionStores$Tree;") (List.mem_of_getElem? (i := 1) rfl)) (fun _ h9 => h9) rfl dX3_valueOf_6 ?_
  refine va_getN (D := D) (ci := 2) (v := .ref (a 4)) (C := RX2) (T := TX2) (N := 7) hx hb hts (fun _ h => List.mem_cons_of_mem _ (List.mem_append_left _ (List.mem_append_right _ h))) hown hK.1 hP 2 rfl rfl 3 (by decide) (va_Nw.use rfl (hK.2 _ (List.mem_of_getElem? (i := 2) rfl))) (fun _ h9 => h9) rfl dX3_valueOf_9 ?_
  refine lv_iload_n hx hb dX3_valueOf_12 rfl (lv_at hl 1 rfl) ?_
  refine r_zald (j := k) (v := bI (dl k)) hx hb hK.1 hP 6 1 rfl rfl (by omega) (by first | decide | omega) rfl dX3_valueOf_13 ?_
  refine r_if_eqB (x := dl k) (tgt := 21) hx hb dX3_valueOf_14 (by decide) (fun c14 => ?_) (fun c14 => ?_)
  · refine lv_aload_n hx hb dX3_valueOf_21 rfl (lv_at hl 0 rfl) ?_
    refine va_get (D := D) (ci := 3) (v := .ref (a 0)) (C := RX3) (T := TX3) (N := 3) hx hb hts (fun _ h => List.mem_cons_of_mem _ (List.mem_append_left _ (List.mem_append_left _ (List.mem_append_right _ h)))) hown hK.1 hP 0 rfl rfl 0 (by decide) (hts (.fieldLink RX3 10 "RevisionStores" "tree" "LRevisionStores$Tree;") (List.mem_of_getElem? (i := 1) rfl)) (fun _ h9 => h9) rfl dX3_valueOf_22 ?_
    refine va_getN (D := D) (ci := 2) (v := .ref (a 3)) (C := RX2) (T := TX2) (N := 7) hx hb hts (fun _ h => List.mem_cons_of_mem _ (List.mem_append_left _ (List.mem_append_right _ h))) hown hK.1 hP 2 rfl rfl 2 (by decide) (va_Nw.use rfl (hK.2 _ (List.mem_of_getElem? (i := 13) rfl))) (fun _ h9 => h9) rfl dX3_valueOf_25 ?_
    refine lv_iload_n hx hb dX3_valueOf_28 rfl (lv_at hl 1 rfl) ?_
    refine r_iald (j := k) (v := va k) hx hb hK.1 hP 5 0 rfl rfl (by omega) (by first | decide | omega) rfl dX3_valueOf_29 ?_
    refine r_top (y := if dl k = true then -1 else va k) (by simp [eP, c14]) ?_
    exact W.iret hx hb hr (fun t ht hW => ⟨_, rfl, rfl, ht⟩) (fun _ h => by cases h) dX3_valueOf_30
  · refine lv_iconst (v := -1) hx hb dX3_valueOf_17 (by decide) ?_
    refine lv_goto (tgt := 30) hx hb dX3_valueOf_18 (by decide) ?_
    refine r_top (y := if dl k = true then -1 else va k) (by simp [eP, c14]) ?_
    exact W.iret hx hb hr (fun t ht hW => ⟨_, rfl, rfl, ht⟩) (fun _ h => by cases h) dX3_valueOf_30
set_option maxHeartbeats 8000000 in
set_option maxRecDepth 100000 in
theorem cX3_revisions_ok (l : Launch) (D : va_G) (ct : Nat → ClassId) (r : Nat → Nat) (u : Nat → Nat) (sa : Nat → Nat → Nat) (a : Nat → Nat) (n : Nat) (dc : Nat → Nat) (pa : Nat → Option Nat) (va : Nat → Int32) (dl : Nat → Bool) (ge : Nat → Nat) (su : Nat → Int32)  : Met l yX3_revisions wsX3_revisions ({ frames := 0, cells := 0, slots := 0, locals := 0 } : Room) (roPc D ct [.ref (r 0)] (wR ct r a u sa ++ wT ct a n dc pa va dl ge su)) (rqI (nI n)) 0 0 (fun _ => False) := by
  refine Met.ofW (cc := cX3_revisions) (maxL := 1) (ret := (some .int)) (by decide) rfl ?_
  intro p e s m args below meth c s₁ B hml hv
  obtain ⟨rfl, hP, hK⟩ := hv
  have hx := B.exec
  have hb := B.bytes
  have hr := B.returns
  have hts := atoms_spec (ws := wsX3_revisions) B.pre
  have hown : s.vm.findClass RX3 = some m.cls := findClass_of_methodNamed B.named
  have hlocks := B.notSynchronized
  have hl := lv_entry ([.ref (r 0)]) (n := 1) (Nat.le_of_ble_eq_true rfl)
  rw [lg_entry_eq]
  generalize (lg_sl ([.ref (r 0)]) ++ List.replicate (1 - (lg_sl ([.ref (r 0)])).length) Slot.unset).toArray = ls at hl ⊢
  have hl : lv_has ls 1 [(0, .ref (r 0))] := hl
  refine lv_aload_n hx hb dX3_revisions_0 rfl (lv_at hl 0 rfl) ?_
  refine va_get (D := D) (ci := 3) (v := .ref (a 0)) (C := RX3) (T := TX3) (N := 3) hx hb hts (fun _ h => List.mem_cons_of_mem _ (List.mem_append_left _ (List.mem_append_right _ h))) hown hK.1 hP 0 rfl rfl 0 (by decide) (hts (.fieldLink RX3 10 "RevisionStores" "tree" "LRevisionStores$Tree;") (List.mem_of_getElem? (i := 1) rfl)) (fun _ h9 => h9) rfl dX3_revisions_1 ?_
  refine va_getN (D := D) (ci := 2) (v := .int (nI n)) (C := RX2) (T := TX2) (N := 7) hx hb hts (fun _ h => List.mem_cons_of_mem _ (List.mem_append_right _ h)) hown hK.1 hP 2 rfl rfl 6 (by decide) (va_Nw.use rfl (hK.2 _ (List.mem_of_getElem? (i := 8) rfl))) (fun _ h9 => h9) rfl dX3_revisions_4 ?_
  exact W.iret hx hb hr (fun t ht hW => ⟨_, rfl, rfl, ht⟩) (fun _ h => by cases h) dX3_revisions_7
set_option maxHeartbeats 8000000 in
set_option maxRecDepth 100000 in
theorem cX3_sequence_ok (l : Launch) (D : va_G) (ct : Nat → ClassId) (r : Nat → Nat) (u : Nat → Nat) (sa : Nat → Nat → Nat) (a : Nat → Nat) (n : Nat) (dc : Nat → Nat) (pa : Nat → Option Nat) (va : Nat → Int32) (dl : Nat → Bool) (ge : Nat → Nat) (su : Nat → Int32) (dp : Int32) (lt : Int32) (ch : Nat → Int32) (ck : Nat → Int32) (h : Nat → Nat) (hd : Nat → Bool) (nl : Nat → Nat) (wi : Nat → Option Nat) (i : Nat) (hi : i < 3) : Met l yX3_sequence wsX3_sequence ({ frames := 1, cells := 0, slots := 0, locals := 21 } : Room) (roPc D ct [.ref (r 0), .int (nI i)] (wR ct r a u sa ++ wT ct a n dc pa va dl ge su ++ wS ct (sa i) h dp lt ch ck ++ wH ct h hd nl wi)) (rqI (lt)) 0 0 (fun _ => False) := by
  refine Met.ofW (cc := cX3_sequence) (maxL := 2) (ret := (some .int)) (by decide) rfl ?_
  intro p e s m args below meth c s₁ B hml hv
  obtain ⟨rfl, hP, hK⟩ := hv
  have hx := B.exec
  have hb := B.bytes
  have hr := B.returns
  have hts := atoms_spec (ws := wsX3_sequence) B.pre
  have hown : s.vm.findClass RX3 = some m.cls := findClass_of_methodNamed B.named
  have hlocks := B.notSynchronized
  have hl := lv_entry ([.ref (r 0), .int (nI i)]) (n := 2) (Nat.le_of_ble_eq_true rfl)
  rw [lg_entry_eq]
  generalize (lg_sl ([.ref (r 0), .int (nI i)]) ++ List.replicate (2 - (lg_sl ([.ref (r 0), .int (nI i)])).length) Slot.unset).toArray = ls at hl ⊢
  have hl : lv_has ls 2 [(0, .ref (r 0)), (1, .int (nI i))] := hl
  refine lv_aload_n hx hb dX3_sequence_0 rfl (lv_at hl 0 rfl) ?_
  refine lv_iload_n hx hb dX3_sequence_1 rfl (lv_at hl 1 rfl) ?_
  refine r_cVr (As := [.int (nI i)]) (rest := []) ⟨hx, hb, hml, hown, hts⟩ (cX3_storeAt_ok l D ct r u sa a i (by first | assumption | omega)) (cwV 1 hts gX3_sequence_X3_storeAt rfl rfl rfl (by decide +kernel) ⟨Nat.le_of_ble_eq_true rfl, Nat.le_of_ble_eq_true rfl⟩) hK (hP.sub (ws' := wR ct r a u sa) [0, 1] rfl) 0 3 rfl rfl rfl hl.1 rfl (Nat.le_of_ble_eq_true rfl) dX3_sequence_2 ⟨Nat.le_of_ble_eq_true rfl, Nat.le_of_ble_eq_true rfl⟩ ?_
  refine va_getN (D := D) (ci := 1) (v := .int lt) (C := RX1) (T := TX1) (N := 5) hx hb hts (fun _ h => List.mem_cons_of_mem _ (List.mem_append_left _ (List.mem_append_left _ (List.mem_append_right _ h)))) hown hK.1 hP 9 rfl rfl 2 (by decide) (va_Nw.use rfl (hK.2 _ (List.mem_of_getElem? (i := 6) rfl))) (fun _ h9 => h9) rfl dX3_sequence_5 ?_
  exact W.iret hx hb hr (fun t ht hW => ⟨_, rfl, rfl, ht⟩) (fun _ h => by cases h) dX3_sequence_8
set_option maxHeartbeats 8000000 in
set_option maxRecDepth 100000 in
theorem cX3_has_ok (l : Launch) (D : va_G) (ct : Nat → ClassId) (r : Nat → Nat) (u : Nat → Nat) (sa : Nat → Nat → Nat) (a : Nat → Nat) (n : Nat) (dc : Nat → Nat) (pa : Nat → Option Nat) (va : Nat → Int32) (dl : Nat → Bool) (ge : Nat → Nat) (su : Nat → Int32) (dp : Int32) (lt : Int32) (ch : Nat → Int32) (ck : Nat → Int32) (h : Nat → Nat) (hd : Nat → Bool) (nl : Nat → Nat) (wi : Nat → Option Nat) (i : Nat) (k : Nat) (hn : n ≤ 150) (hi : i < 3) (hk : k < n) : Met l yX3_has wsX3_has ({ frames := 1, cells := 0, slots := 0, locals := 21 } : Room) (roPc D ct [.ref (r 0), .int (nI i), .int (nI k)] (wR ct r a u sa ++ wT ct a n dc pa va dl ge su ++ wS ct (sa i) h dp lt ch ck ++ wH ct h hd nl wi)) (rqI (bI (hd k))) 0 0 (fun _ => False) := by
  refine Met.ofW (cc := cX3_has) (maxL := 4) (ret := (some .boolean)) (by decide) rfl ?_
  intro p e s m args below meth c s₁ B hml hv
  obtain ⟨rfl, hP, hK⟩ := hv
  have hx := B.exec
  have hb := B.bytes
  have hr := B.returns
  have hts := atoms_spec (ws := wsX3_has) B.pre
  have hown : s.vm.findClass RX3 = some m.cls := findClass_of_methodNamed B.named
  have hlocks := B.notSynchronized
  have hl := lv_entry ([.ref (r 0), .int (nI i), .int (nI k)]) (n := 4) (Nat.le_of_ble_eq_true rfl)
  rw [lg_entry_eq]
  generalize (lg_sl ([.ref (r 0), .int (nI i), .int (nI k)]) ++ List.replicate (4 - (lg_sl ([.ref (r 0), .int (nI i), .int (nI k)])).length) Slot.unset).toArray = ls at hl ⊢
  have hl : lv_has ls 4 [(0, .ref (r 0)), (1, .int (nI i)), (2, .int (nI k))] := hl
  refine lv_aload_n hx hb dX3_has_0 rfl (lv_at hl 0 rfl) ?_
  refine lv_iload_n hx hb dX3_has_1 rfl (lv_at hl 1 rfl) ?_
  refine r_cVr (As := [.int (nI i)]) (rest := []) ⟨hx, hb, hml, hown, hts⟩ (cX3_storeAt_ok l D ct r u sa a i (by first | assumption | omega)) (cwV 1 hts gX3_has_X3_storeAt rfl rfl rfl (by decide +kernel) ⟨Nat.le_of_ble_eq_true rfl, Nat.le_of_ble_eq_true rfl⟩) hK (hP.sub (ws' := wR ct r a u sa) [0, 1] rfl) 0 3 rfl rfl rfl hl.1 rfl (Nat.le_of_ble_eq_true rfl) dX3_has_2 ⟨Nat.le_of_ble_eq_true rfl, Nat.le_of_ble_eq_true rfl⟩ ?_
  refine lv_astore_n (lv' := [(3, .ref ((sa i) 0)), (0, .ref (r 0)), (1, .int (nI i)), (2, .int (nI k))]) hx hb dX3_has_5 rfl hl (by decide) rfl (fun ls hl => ?_)
  refine lv_aload_n hx hb dX3_has_6 rfl (lv_at hl 1 rfl) ?_
  refine lv_iload_n hx hb dX3_has_7 rfl (lv_at hl 3 rfl) ?_
  refine r_cVv (As := [.int (nI k)]) (rest := []) ⟨hx, hb, hml, hown, hts⟩ (cX3_checkRevision_ok l D ct r u sa a n dc pa va dl ge su k (by first | assumption | omega) (by first | assumption | omega)) (cwV 1 hts gX3_has_X3_checkRevision rfl rfl rfl (by decide +kernel) ⟨Nat.le_of_ble_eq_true rfl, Nat.le_of_ble_eq_true rfl⟩) hK (hP.sub (ws' := wR ct r a u sa ++ wT ct a n dc pa va dl ge su) [0, 1, 2, 3, 4, 5, 6, 7, 8] rfl) 0 3 rfl rfl rfl hl.1 rfl (Nat.le_of_ble_eq_true rfl) dX3_has_8 ⟨Nat.le_of_ble_eq_true rfl, Nat.le_of_ble_eq_true rfl⟩ ?_
  refine lv_aload_n hx hb dX3_has_11 rfl (lv_at hl 0 rfl) ?_
  refine va_getN (D := D) (ci := 1) (v := .ref (h 0)) (C := RX1) (T := TX1) (N := 5) hx hb hts (fun _ h => List.mem_cons_of_mem _ (List.mem_append_left _ (List.mem_append_left _ (List.mem_append_left _ (List.mem_append_left _ (List.mem_append_right _ h)))))) hown hK.1 hP 9 rfl rfl 0 (by decide) (va_Nw.use rfl (hK.2 _ (List.mem_of_getElem? (i := 4) rfl))) (fun _ h9 => h9) rfl dX3_has_12 ?_
  refine va_getN (D := D) (ci := 0) (v := .ref (h 1)) (C := RX0) (T := TX0) (N := 3) hx hb hts (fun _ h => List.mem_cons_of_mem _ (List.mem_append_left _ (List.mem_append_left _ (List.mem_append_left _ (List.mem_append_right _ h))))) hown hK.1 hP 12 rfl rfl 0 (by decide) (va_Nw.use rfl (hK.2 _ (List.mem_of_getElem? (i := 14) rfl))) (fun _ h9 => h9) rfl dX3_has_15 ?_
  refine lv_iload_n hx hb dX3_has_18 rfl (lv_at hl 3 rfl) ?_
  refine r_zald (j := k) (v := bI (hd k)) hx hb hK.1 hP 13 1 rfl rfl (by omega) (by first | decide | omega) rfl dX3_has_19 ?_
  exact W.zret hx hb hr (bI_narrow _) (fun t ht hW => ⟨_, rfl, rfl, ht⟩) (fun _ h => by cases h) dX3_has_20
set_option maxHeartbeats 8000000 in
set_option maxRecDepth 100000 in
theorem cX3_isLeaf_ok (l : Launch) (D : va_G) (ct : Nat → ClassId) (r : Nat → Nat) (u : Nat → Nat) (sa : Nat → Nat → Nat) (a : Nat → Nat) (n : Nat) (dc : Nat → Nat) (pa : Nat → Option Nat) (va : Nat → Int32) (dl : Nat → Bool) (ge : Nat → Nat) (su : Nat → Int32) (dp : Int32) (lt : Int32) (ch : Nat → Int32) (ck : Nat → Int32) (h : Nat → Nat) (hd : Nat → Bool) (nl : Nat → Nat) (wi : Nat → Option Nat) (i : Nat) (k : Nat) (hn : n ≤ 150) (hNl : ∀ k, nl k ≤ 151) (hi : i < 3) (hk : k < n) : Met l yX3_isLeaf wsX3_isLeaf ({ frames := 2, cells := 0, slots := 0, locals := 42 } : Room) (roPc D ct [.ref (r 0), .int (nI i), .int (nI k)] (wR ct r a u sa ++ wT ct a n dc pa va dl ge su ++ wS ct (sa i) h dp lt ch ck ++ wH ct h hd nl wi)) (rqI (bI (ends hd nl k))) 0 0 (fun _ => False) := by
  refine Met.ofW (cc := cX3_isLeaf) (maxL := 4) (ret := (some .boolean)) (by decide) rfl ?_
  intro p e s m args below meth c s₁ B hml hv
  obtain ⟨rfl, hP, hK⟩ := hv
  have hx := B.exec
  have hb := B.bytes
  have hr := B.returns
  have hts := atoms_spec (ws := wsX3_isLeaf) B.pre
  have hown : s.vm.findClass RX3 = some m.cls := findClass_of_methodNamed B.named
  have hlocks := B.notSynchronized
  have hl := lv_entry ([.ref (r 0), .int (nI i), .int (nI k)]) (n := 4) (Nat.le_of_ble_eq_true rfl)
  rw [lg_entry_eq]
  generalize (lg_sl ([.ref (r 0), .int (nI i), .int (nI k)]) ++ List.replicate (4 - (lg_sl ([.ref (r 0), .int (nI i), .int (nI k)])).length) Slot.unset).toArray = ls at hl ⊢
  have hl : lv_has ls 4 [(0, .ref (r 0)), (1, .int (nI i)), (2, .int (nI k))] := hl
  refine lv_aload_n hx hb dX3_isLeaf_0 rfl (lv_at hl 0 rfl) ?_
  refine lv_iload_n hx hb dX3_isLeaf_1 rfl (lv_at hl 1 rfl) ?_
  refine r_cVr (As := [.int (nI i)]) (rest := []) ⟨hx, hb, hml, hown, hts⟩ (cX3_storeAt_ok l D ct r u sa a i (by first | assumption | omega)) (cwV 1 hts gX3_isLeaf_X3_storeAt rfl rfl rfl (by decide +kernel) ⟨Nat.le_of_ble_eq_true rfl, Nat.le_of_ble_eq_true rfl⟩) hK (hP.sub (ws' := wR ct r a u sa) [0, 1] rfl) 0 3 rfl rfl rfl hl.1 rfl (Nat.le_of_ble_eq_true rfl) dX3_isLeaf_2 ⟨Nat.le_of_ble_eq_true rfl, Nat.le_of_ble_eq_true rfl⟩ ?_
  refine lv_astore_n (lv' := [(3, .ref ((sa i) 0)), (0, .ref (r 0)), (1, .int (nI i)), (2, .int (nI k))]) hx hb dX3_isLeaf_5 rfl hl (by decide) rfl (fun ls hl => ?_)
  refine lv_aload_n hx hb dX3_isLeaf_6 rfl (lv_at hl 1 rfl) ?_
  refine lv_iload_n hx hb dX3_isLeaf_7 rfl (lv_at hl 3 rfl) ?_
  refine r_cVv (As := [.int (nI k)]) (rest := []) ⟨hx, hb, hml, hown, hts⟩ (cX3_checkRevision_ok l D ct r u sa a n dc pa va dl ge su k (by first | assumption | omega) (by first | assumption | omega)) (cwV 1 hts gX3_isLeaf_X3_checkRevision rfl rfl rfl (by decide +kernel) ⟨Nat.le_of_ble_eq_true rfl, Nat.le_of_ble_eq_true rfl⟩) hK (hP.sub (ws' := wR ct r a u sa ++ wT ct a n dc pa va dl ge su) [0, 1, 2, 3, 4, 5, 6, 7, 8] rfl) 0 3 rfl rfl rfl hl.1 rfl (Nat.le_of_ble_eq_true rfl) dX3_isLeaf_8 ⟨Nat.le_of_ble_eq_true rfl, Nat.le_of_ble_eq_true rfl⟩ ?_
  refine lv_aload_n hx hb dX3_isLeaf_11 rfl (lv_at hl 0 rfl) ?_
  refine va_getN (D := D) (ci := 1) (v := .ref (h 0)) (C := RX1) (T := TX1) (N := 5) hx hb hts (fun _ h => List.mem_cons_of_mem _ (List.mem_append_left _ (List.mem_append_left _ (List.mem_append_left _ (List.mem_append_left _ (List.mem_append_right _ h)))))) hown hK.1 hP 9 rfl rfl 0 (by decide) (va_Nw.use rfl (hK.2 _ (List.mem_of_getElem? (i := 4) rfl))) (fun _ h9 => h9) rfl dX3_isLeaf_12 ?_
  refine lv_iload_n hx hb dX3_isLeaf_15 rfl (lv_at hl 3 rfl) ?_
  refine r_cV (As := [.int (nI k)]) (rest := []) ⟨hx, hb, hml, hown, hts⟩ (cX0_endsAt_ok l D ct h hd nl wi k (by first | assumption | omega) (hNl _)) (cwV 1 hts gX3_isLeaf_X0_endsAt rfl rfl rfl (by decide +kernel) ⟨Nat.le_of_ble_eq_true rfl, Nat.le_of_ble_eq_true rfl⟩) hK (hP.sub (ws' := wH ct h hd nl wi) [12, 13, 14, 15] rfl) 0 0 rfl rfl rfl hl.1 rfl (Nat.le_of_ble_eq_true rfl) dX3_isLeaf_16 ⟨Nat.le_of_ble_eq_true rfl, Nat.le_of_ble_eq_true rfl⟩ ?_
  exact W.zret hx hb hr (bI_narrow _) (fun t ht hW => ⟨_, rfl, rfl, ht⟩) (fun _ h => by cases h) dX3_isLeaf_19
set_option maxHeartbeats 8000000 in
set_option maxRecDepth 100000 in
theorem cX3_size_ok (l : Launch) (D : va_G) (ct : Nat → ClassId) (r : Nat → Nat) (u : Nat → Nat) (sa : Nat → Nat → Nat) (a : Nat → Nat) (n : Nat) (dc : Nat → Nat) (pa : Nat → Option Nat) (va : Nat → Int32) (dl : Nat → Bool) (ge : Nat → Nat) (su : Nat → Int32) (dp : Int32) (lt : Int32) (ch : Nat → Int32) (ck : Nat → Int32) (h : Nat → Nat) (hd : Nat → Bool) (nl : Nat → Nat) (wi : Nat → Option Nat) (i : Nat) (hn : n ≤ 150) (hi : i < 3) : Met l yX3_size wsX3_size ({ frames := 1, cells := 0, slots := 0, locals := 23 } : Room) (roPc D ct [.ref (r 0), .int (nI i)] (wR ct r a u sa ++ wT ct a n dc pa va dl ge su ++ wS ct (sa i) h dp lt ch ck ++ wH ct h hd nl wi)) (rqI (nI (fct hd n))) 0 0 (fun _ => False) := by
  refine Met.ofW (cc := cX3_size) (maxL := 2) (ret := (some .int)) (by decide) rfl ?_
  intro p e s m args below meth c s₁ B hml hv
  obtain ⟨rfl, hP, hK⟩ := hv
  have hx := B.exec
  have hb := B.bytes
  have hr := B.returns
  have hts := atoms_spec (ws := wsX3_size) B.pre
  have hown : s.vm.findClass RX3 = some m.cls := findClass_of_methodNamed B.named
  have hlocks := B.notSynchronized
  have hl := lv_entry ([.ref (r 0), .int (nI i)]) (n := 2) (Nat.le_of_ble_eq_true rfl)
  rw [lg_entry_eq]
  generalize (lg_sl ([.ref (r 0), .int (nI i)]) ++ List.replicate (2 - (lg_sl ([.ref (r 0), .int (nI i)])).length) Slot.unset).toArray = ls at hl ⊢
  have hl : lv_has ls 2 [(0, .ref (r 0)), (1, .int (nI i))] := hl
  refine lv_aload_n hx hb dX3_size_0 rfl (lv_at hl 0 rfl) ?_
  refine lv_iload_n hx hb dX3_size_1 rfl (lv_at hl 1 rfl) ?_
  refine r_cVr (As := [.int (nI i)]) (rest := []) ⟨hx, hb, hml, hown, hts⟩ (cX3_storeAt_ok l D ct r u sa a i (by first | assumption | omega)) (cwV 1 hts gX3_size_X3_storeAt rfl rfl rfl (by decide +kernel) ⟨Nat.le_of_ble_eq_true rfl, Nat.le_of_ble_eq_true rfl⟩) hK (hP.sub (ws' := wR ct r a u sa) [0, 1] rfl) 0 3 rfl rfl rfl hl.1 rfl (Nat.le_of_ble_eq_true rfl) dX3_size_2 ⟨Nat.le_of_ble_eq_true rfl, Nat.le_of_ble_eq_true rfl⟩ ?_
  refine va_getN (D := D) (ci := 1) (v := .ref (h 0)) (C := RX1) (T := TX1) (N := 5) hx hb hts (fun _ h => List.mem_cons_of_mem _ (List.mem_append_left _ (List.mem_append_left _ (List.mem_append_left _ (List.mem_append_left _ (List.mem_append_right _ h)))))) hown hK.1 hP 9 rfl rfl 0 (by decide) (va_Nw.use rfl (hK.2 _ (List.mem_of_getElem? (i := 4) rfl))) (fun _ h9 => h9) rfl dX3_size_5 ?_
  refine lv_aload_n hx hb dX3_size_8 rfl (lv_at hl 0 rfl) ?_
  refine va_get (D := D) (ci := 3) (v := .ref (a 0)) (C := RX3) (T := TX3) (N := 3) hx hb hts (fun _ h => List.mem_cons_of_mem _ (List.mem_append_left _ (List.mem_append_left _ (List.mem_append_left _ (List.mem_append_right _ h))))) hown hK.1 hP 0 rfl rfl 0 (by decide) (hts (.fieldLink RX3 10 "RevisionStores" "tree" "LRevisionStores$Tree;") (List.mem_of_getElem? (i := 1) rfl)) (fun _ h9 => h9) rfl dX3_size_9 ?_
  refine r_cV (As := [.ref (a 0)]) (rest := []) ⟨hx, hb, hml, hown, hts⟩ (cX0_countAll_ok l D ct h hd nl wi a n dc pa va dl ge su (by first | assumption | omega)) (cwV 1 hts gX3_size_X0_countAll rfl rfl rfl (by decide +kernel) ⟨Nat.le_of_ble_eq_true rfl, Nat.le_of_ble_eq_true rfl⟩) hK (hP.sub (ws' := wH ct h hd nl wi ++ wT ct a n dc pa va dl ge su) [12, 13, 14, 15, 2, 3, 4, 5, 6, 7, 8] rfl) 0 0 rfl rfl rfl hl.1 rfl (Nat.le_of_ble_eq_true rfl) dX3_size_12 ⟨Nat.le_of_ble_eq_true rfl, Nat.le_of_ble_eq_true rfl⟩ ?_
  exact W.iret hx hb hr (fun t ht hW => ⟨_, rfl, rfl, ht⟩) (fun _ h => by cases h) dX3_size_15
set_option maxHeartbeats 8000000 in
set_option maxRecDepth 100000 in
theorem cX3_winner_ok (l : Launch) (D : va_G) (ct : Nat → ClassId) (r : Nat → Nat) (u : Nat → Nat) (sa : Nat → Nat → Nat) (a : Nat → Nat) (n : Nat) (dc : Nat → Nat) (pa : Nat → Option Nat) (va : Nat → Int32) (dl : Nat → Bool) (ge : Nat → Nat) (su : Nat → Int32) (dp : Int32) (lt : Int32) (ch : Nat → Int32) (ck : Nat → Int32) (h : Nat → Nat) (hd : Nat → Bool) (nl : Nat → Nat) (wi : Nat → Option Nat) (i : Nat) (d : Nat) (hi : i < 3) (hd4 : d < 4) : Met l yX3_winner wsX3_winner ({ frames := 1, cells := 0, slots := 0, locals := 21 } : Room) (roPc D ct [.ref (r 0), .int (nI i), .int (nI d)] (wR ct r a u sa ++ wT ct a n dc pa va dl ge su ++ wS ct (sa i) h dp lt ch ck ++ wH ct h hd nl wi)) (rqI (eP (wi d))) 0 0 (fun _ => False) := by
  refine Met.ofW (cc := cX3_winner) (maxL := 4) (ret := (some .int)) (by decide) rfl ?_
  intro p e s m args below meth c s₁ B hml hv
  obtain ⟨rfl, hP, hK⟩ := hv
  have hx := B.exec
  have hb := B.bytes
  have hr := B.returns
  have hts := atoms_spec (ws := wsX3_winner) B.pre
  have hown : s.vm.findClass RX3 = some m.cls := findClass_of_methodNamed B.named
  have hlocks := B.notSynchronized
  have hl := lv_entry ([.ref (r 0), .int (nI i), .int (nI d)]) (n := 4) (Nat.le_of_ble_eq_true rfl)
  rw [lg_entry_eq]
  generalize (lg_sl ([.ref (r 0), .int (nI i), .int (nI d)]) ++ List.replicate (4 - (lg_sl ([.ref (r 0), .int (nI i), .int (nI d)])).length) Slot.unset).toArray = ls at hl ⊢
  have hl : lv_has ls 4 [(0, .ref (r 0)), (1, .int (nI i)), (2, .int (nI d))] := hl
  refine lv_aload_n hx hb dX3_winner_0 rfl (lv_at hl 0 rfl) ?_
  refine lv_iload_n hx hb dX3_winner_1 rfl (lv_at hl 1 rfl) ?_
  refine r_cVr (As := [.int (nI i)]) (rest := []) ⟨hx, hb, hml, hown, hts⟩ (cX3_storeAt_ok l D ct r u sa a i (by first | assumption | omega)) (cwV 1 hts gX3_winner_X3_storeAt rfl rfl rfl (by decide +kernel) ⟨Nat.le_of_ble_eq_true rfl, Nat.le_of_ble_eq_true rfl⟩) hK (hP.sub (ws' := wR ct r a u sa) [0, 1] rfl) 0 3 rfl rfl rfl hl.1 rfl (Nat.le_of_ble_eq_true rfl) dX3_winner_2 ⟨Nat.le_of_ble_eq_true rfl, Nat.le_of_ble_eq_true rfl⟩ ?_
  refine lv_astore_n (lv' := [(3, .ref ((sa i) 0)), (0, .ref (r 0)), (1, .int (nI i)), (2, .int (nI d))]) hx hb dX3_winner_5 rfl hl (by decide) rfl (fun ls hl => ?_)
  refine lv_aload_n hx hb dX3_winner_6 rfl (lv_at hl 1 rfl) ?_
  refine lv_iload_n hx hb dX3_winner_7 rfl (lv_at hl 3 rfl) ?_
  refine r_cVv (As := [.int (nI d)]) (rest := []) ⟨hx, hb, hml, hown, hts⟩ (cX3_checkDocument_ok l D ct r u sa a d (by first | assumption | omega)) (cwV 1 hts gX3_winner_X3_checkDocument rfl rfl rfl (by decide +kernel) ⟨Nat.le_of_ble_eq_true rfl, Nat.le_of_ble_eq_true rfl⟩) hK (hP.sub (ws' := wR ct r a u sa) [0, 1] rfl) 0 3 rfl rfl rfl hl.1 rfl (Nat.le_of_ble_eq_true rfl) dX3_winner_8 ⟨Nat.le_of_ble_eq_true rfl, Nat.le_of_ble_eq_true rfl⟩ ?_
  refine lv_aload_n hx hb dX3_winner_11 rfl (lv_at hl 0 rfl) ?_
  refine va_getN (D := D) (ci := 1) (v := .ref (h 0)) (C := RX1) (T := TX1) (N := 5) hx hb hts (fun _ h => List.mem_cons_of_mem _ (List.mem_append_left _ (List.mem_append_left _ (List.mem_append_left _ (List.mem_append_right _ h))))) hown hK.1 hP 9 rfl rfl 0 (by decide) (va_Nw.use rfl (hK.2 _ (List.mem_of_getElem? (i := 4) rfl))) (fun _ h9 => h9) rfl dX3_winner_12 ?_
  refine va_getN (D := D) (ci := 0) (v := .ref (h 3)) (C := RX0) (T := TX0) (N := 3) hx hb hts (fun _ h => List.mem_cons_of_mem _ (List.mem_append_left _ (List.mem_append_left _ (List.mem_append_right _ h)))) hown hK.1 hP 12 rfl rfl 2 (by decide) (va_Nw.use rfl (hK.2 _ (List.mem_of_getElem? (i := 15) rfl))) (fun _ h9 => h9) rfl dX3_winner_15 ?_
  refine lv_iload_n hx hb dX3_winner_18 rfl (lv_at hl 3 rfl) ?_
  refine r_iald (j := d) (v := eP (wi d)) hx hb hK.1 hP 15 0 rfl rfl (by omega) (by first | decide | omega) rfl dX3_winner_19 ?_
  exact W.iret hx hb hr (fun t ht hW => ⟨_, rfl, rfl, ht⟩) (fun _ h => by cases h) dX3_winner_20
set_option maxHeartbeats 8000000 in
set_option maxRecDepth 100000 in
theorem cX3_conflicts_ok (l : Launch) (D : va_G) (ct : Nat → ClassId) (r : Nat → Nat) (u : Nat → Nat) (sa : Nat → Nat → Nat) (a : Nat → Nat) (n : Nat) (dc : Nat → Nat) (pa : Nat → Option Nat) (va : Nat → Int32) (dl : Nat → Bool) (ge : Nat → Nat) (su : Nat → Int32) (dp : Int32) (lt : Int32) (ch : Nat → Int32) (ck : Nat → Int32) (h : Nat → Nat) (hd : Nat → Bool) (nl : Nat → Nat) (wi : Nat → Option Nat) (i : Nat) (d : Nat) (hn : n ≤ 150) (hTd : ∀ k, dc k < 4) (hNl : ∀ k, nl k ≤ 151) (hi : i < 3) (hd4 : d < 4) : Met l yX3_conflicts wsX3_conflicts ({ frames := 3, cells := 0, slots := 0, locals := 66 } : Room) (roPc D ct [.ref (r 0), .int (nI i), .int (nI d)] (wR ct r a u sa ++ wT ct a n dc pa va dl ge su ++ wS ct (sa i) h dp lt ch ck ++ wH ct h hd nl wi)) (rqI (nI (fct (llC dc dl (ends hd nl) d) n - 1))) 0 0 (fun _ => False) := by
  refine Met.ofW (cc := cX3_conflicts) (maxL := 4) (ret := (some .int)) (by decide) rfl ?_
  intro p e s m args below meth c s₁ B hml hv
  obtain ⟨rfl, hP, hK⟩ := hv
  have hx := B.exec
  have hb := B.bytes
  have hr := B.returns
  have hts := atoms_spec (ws := wsX3_conflicts) B.pre
  have hown : s.vm.findClass RX3 = some m.cls := findClass_of_methodNamed B.named
  have hlocks := B.notSynchronized
  have hl := lv_entry ([.ref (r 0), .int (nI i), .int (nI d)]) (n := 4) (Nat.le_of_ble_eq_true rfl)
  rw [lg_entry_eq]
  generalize (lg_sl ([.ref (r 0), .int (nI i), .int (nI d)]) ++ List.replicate (4 - (lg_sl ([.ref (r 0), .int (nI i), .int (nI d)])).length) Slot.unset).toArray = ls at hl ⊢
  have hl : lv_has ls 4 [(0, .ref (r 0)), (1, .int (nI i)), (2, .int (nI d))] := hl
  refine lv_aload_n hx hb dX3_conflicts_0 rfl (lv_at hl 0 rfl) ?_
  refine lv_iload_n hx hb dX3_conflicts_1 rfl (lv_at hl 1 rfl) ?_
  refine r_cVr (As := [.int (nI i)]) (rest := []) ⟨hx, hb, hml, hown, hts⟩ (cX3_storeAt_ok l D ct r u sa a i (by first | assumption | omega)) (cwV 1 hts gX3_conflicts_X3_storeAt rfl rfl rfl (by decide +kernel) ⟨Nat.le_of_ble_eq_true rfl, Nat.le_of_ble_eq_true rfl⟩) hK (hP.sub (ws' := wR ct r a u sa) [0, 1] rfl) 0 3 rfl rfl rfl hl.1 rfl (Nat.le_of_ble_eq_true rfl) dX3_conflicts_2 ⟨Nat.le_of_ble_eq_true rfl, Nat.le_of_ble_eq_true rfl⟩ ?_
  refine lv_astore_n (lv' := [(3, .ref ((sa i) 0)), (0, .ref (r 0)), (1, .int (nI i)), (2, .int (nI d))]) hx hb dX3_conflicts_5 rfl hl (by decide) rfl (fun ls hl => ?_)
  refine lv_aload_n hx hb dX3_conflicts_6 rfl (lv_at hl 1 rfl) ?_
  refine lv_iload_n hx hb dX3_conflicts_7 rfl (lv_at hl 3 rfl) ?_
  refine r_cVv (As := [.int (nI d)]) (rest := []) ⟨hx, hb, hml, hown, hts⟩ (cX3_checkDocument_ok l D ct r u sa a d (by first | assumption | omega)) (cwV 1 hts gX3_conflicts_X3_checkDocument rfl rfl rfl (by decide +kernel) ⟨Nat.le_of_ble_eq_true rfl, Nat.le_of_ble_eq_true rfl⟩) hK (hP.sub (ws' := wR ct r a u sa) [0, 1] rfl) 0 3 rfl rfl rfl hl.1 rfl (Nat.le_of_ble_eq_true rfl) dX3_conflicts_8 ⟨Nat.le_of_ble_eq_true rfl, Nat.le_of_ble_eq_true rfl⟩ ?_
  refine lv_iconst (v := nI 0) hx hb dX3_conflicts_11 (by decide) ?_
  refine lv_aload_n hx hb dX3_conflicts_12 rfl (lv_at hl 0 rfl) ?_
  refine va_getN (D := D) (ci := 1) (v := .ref (h 0)) (C := RX1) (T := TX1) (N := 5) hx hb hts (fun _ h => List.mem_cons_of_mem _ (List.mem_append_left _ (List.mem_append_left _ (List.mem_append_left _ (List.mem_append_left _ (List.mem_append_right _ h)))))) hown hK.1 hP 9 rfl rfl 0 (by decide) (va_Nw.use rfl (hK.2 _ (List.mem_of_getElem? (i := 4) rfl))) (fun _ h9 => h9) rfl dX3_conflicts_13 ?_
  refine lv_aload_n hx hb dX3_conflicts_16 rfl (lv_at hl 1 rfl) ?_
  refine va_get (D := D) (ci := 3) (v := .ref (a 0)) (C := RX3) (T := TX3) (N := 3) hx hb hts (fun _ h => List.mem_cons_of_mem _ (List.mem_append_left _ (List.mem_append_left _ (List.mem_append_left _ (List.mem_append_right _ h))))) hown hK.1 hP 0 rfl rfl 0 (by decide) (hts (.fieldLink RX3 10 "RevisionStores" "tree" "LRevisionStores$Tree;") (List.mem_of_getElem? (i := 1) rfl)) (fun _ h9 => h9) rfl dX3_conflicts_17 ?_
  refine lv_iload_n hx hb dX3_conflicts_20 rfl (lv_at hl 3 rfl) ?_
  refine r_cV (As := [.ref (a 0), .int (nI d)]) (rest := [.int (nI 0)]) ⟨hx, hb, hml, hown, hts⟩ (cX0_countLiveLeaves_ok l D ct h hd nl wi a n dc pa va dl ge su d (by first | assumption | omega) (by first | assumption | omega) (by first | assumption | omega) (by first | assumption | omega)) (cwV 2 hts gX3_conflicts_X0_countLiveLeaves rfl rfl rfl (by decide +kernel) ⟨Nat.le_of_ble_eq_true rfl, Nat.le_of_ble_eq_true rfl⟩) hK (hP.sub (ws' := wH ct h hd nl wi ++ wT ct a n dc pa va dl ge su) [12, 13, 14, 15, 2, 3, 4, 5, 6, 7, 8] rfl) 0 0 rfl rfl rfl hl.1 rfl (Nat.le_of_ble_eq_true rfl) dX3_conflicts_21 ⟨Nat.le_of_ble_eq_true rfl, Nat.le_of_ble_eq_true rfl⟩ ?_
  refine lv_iconst (v := nI 1) hx hb dX3_conflicts_24 (by decide) ?_
  refine lv_isub hx hb dX3_conflicts_25 ?_
  refine r_top (y := eP (prd (fct (llC dc dl (ends hd nl) d) n))) (nI_prd2 _) ?_
  have e26 := fct_le (llC dc dl (ends hd nl) d) n
  refine r_mmaxP hx hb (by rw [hml]; exact hl.1.symm) hown (hts (.methodLink RX3 168 Lib.Math.max.name) (List.mem_of_getElem? (i := 2) rfl)) (hts (.static Lib.Math.max.name) (List.mem_of_getElem? (i := 3) rfl)) (hts (.initialized "java/lang/Math") (List.mem_of_getElem? (i := 4) rfl)) (hts (.code Lib.Math.max.name Lib.Math.max.code 2 (some .int)) (List.mem_of_getElem? (i := 5) rfl)) (Nat.le_of_ble_eq_true rfl) (Nat.le_of_ble_eq_true rfl) (Nat.le_of_ble_eq_true rfl) (Nat.le_of_ble_eq_true rfl) (z := (fct (llC dc dl (ends hd nl) d) n)) (by omega) dX3_conflicts_26 ?_
  refine r_top (y := nI (fct (llC dc dl (ends hd nl) d) n - 1)) (congrArg nI (show ((fct (llC dc dl (ends hd nl) d) n) - 1) = (fct (llC dc dl (ends hd nl) d) n - 1) from rfl)) ?_
  exact W.iret hx hb hr (fun t ht hW => ⟨_, rfl, rfl, ht⟩) (fun _ h => by cases h) dX3_conflicts_29
