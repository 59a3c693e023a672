set_option maxHeartbeats 8000000 in
set_option maxRecDepth 100000 in
theorem cX3_storeAt_ok (l : Launch) (D : va_G) (ct : Nat → ClassId) (r : Nat → Nat) (u : Nat → Nat) (sa : Nat → Nat → Nat) (a : Nat → Nat) (i : Nat) (hi : i < 3) : Met l yX3_storeAt wsX3_storeAt ({ frames := 0, cells := 0, slots := 0, locals := 0 } : Room) (roPc D ct [.ref (r 0), .int (nI i)] (wR ct r a u sa)) (va_Sr (fun q9 => q9 = (sa i) 0) .ref) 0 0 (fun _ => False) := by
  refine Met.ofW (cc := cX3_storeAt) (maxL := 2) (ret := (some (.object "RevisionStores$Store"))) (by decide) rfl ?_
  intro p e s m args below meth c s₁ B hml hv
  obtain ⟨rfl, hP, hK⟩ := hv
  have hx := B.exec
  have hb := B.bytes
  have hr := B.returns
  have hts := atoms_spec (ws := wsX3_storeAt) B.pre
  have hown : s.vm.findClass RX3 = some m.cls := findClass_of_methodNamed B.named
  have hlocks := B.notSynchronized
  have hl := lv_entry ([.ref (r 0), .int (nI i)]) (n := 2) (Nat.le_of_ble_eq_true rfl)
  rw [lg_entry_eq]
  generalize (lg_sl ([.ref (r 0), .int (nI i)]) ++ List.replicate (2 - (lg_sl ([.ref (r 0), .int (nI i)])).length) Slot.unset).toArray = ls at hl ⊢
  have hl : lv_has ls 2 [(0, .ref (r 0)), (1, .int (nI i))] := hl
  refine lv_iload_n hx hb dX3_storeAt_0 rfl (lv_at hl 1 rfl) ?_
  refine lv_if_lt (x := nI i) (tgt := 9) hx hb dX3_storeAt_1 (by decide) (fun c1 => ?_) (fun c1 => ?_)
  · exact absurd c1 (nI_pos (by omega))
  · refine lv_iload_n hx hb dX3_storeAt_4 rfl (lv_at hl 1 rfl) ?_
    refine lv_iconst (v := nI 3) hx hb dX3_storeAt_5 (by decide) ?_
    refine r_icmp_ltN hx hb (x := i) (y := 3) (by first | omega | decide) (by first | omega | decide) (tgt := 19) dX3_storeAt_6 (by decide) (fun c6 => ?_) (fun c6 => ?_)
    · refine lv_aload_n hx hb dX3_storeAt_19 rfl (lv_at hl 0 rfl) ?_
      refine va_get (D := D) (ci := 3) (v := .ref (r 1)) (C := RX3) (T := TX3) (N := 3) hx hb hts (fun _ h => List.mem_cons_of_mem _ (List.mem_append_left _ (List.mem_append_right _ h))) hown hK.1 hP 0 rfl rfl 1 (by decide) (hts (.fieldLink RX3 18 "RevisionStores" "stores" "[LRevisionStores$Store;") (List.mem_of_getElem? (i := 3) rfl)) (fun _ h9 => h9) rfl dX3_storeAt_20 ?_
      refine lv_iload_n hx hb dX3_storeAt_23 rfl (lv_at hl 1 rfl) ?_
      refine r_aald (j := i) (v := sa i 0) hx hb hK.1 hP 1 2 rfl rfl (by omega) (by decide) rfl dX3_storeAt_24 ?_
      exact W.aret hx hb hr (Or.inl ⟨_, rfl⟩) (Or.inr ⟨_, rfl⟩) (fun t ht hW => ⟨_, rfl, rfl, ht⟩) (fun _ h => by cases h) dX3_storeAt_25
    · omega
set_option maxHeartbeats 8000000 in
set_option maxRecDepth 100000 in
theorem cX3_checkDocument_ok (l : Launch) (D : va_G) (ct : Nat → ClassId) (r : Nat → Nat) (u : Nat → Nat) (sa : Nat → Nat → Nat) (a : Nat → Nat) (d : Nat) (hd4 : d < 4) : Met l yX3_checkDocument wsX3_checkDocument ({ frames := 0, cells := 0, slots := 0, locals := 0 } : Room) (roPc D ct [.ref (r 0), .int (nI d)] (wR ct r a u sa)) (va_Sv (fun _ => True)) 0 0 (fun _ => False) := by
  refine Met.ofW (cc := cX3_checkDocument) (maxL := 2) (ret := none) (by decide) rfl ?_
  intro p e s m args below meth c s₁ B hml hv
  obtain ⟨rfl, hP, hK⟩ := hv
  have hx := B.exec
  have hb := B.bytes
  have hr := B.returns
  have hts := atoms_spec (ws := wsX3_checkDocument) B.pre
  have hown : s.vm.findClass RX3 = some m.cls := findClass_of_methodNamed B.named
  have hlocks := B.notSynchronized
  have hl := lv_entry ([.ref (r 0), .int (nI d)]) (n := 2) (Nat.le_of_ble_eq_true rfl)
  rw [lg_entry_eq]
  generalize (lg_sl ([.ref (r 0), .int (nI d)]) ++ List.replicate (2 - (lg_sl ([.ref (r 0), .int (nI d)])).length) Slot.unset).toArray = ls at hl ⊢
  have hl : lv_has ls 2 [(0, .ref (r 0)), (1, .int (nI d))] := hl
  refine lv_iload_n hx hb dX3_checkDocument_0 rfl (lv_at hl 1 rfl) ?_
  refine lv_if_lt (x := nI d) (tgt := 9) hx hb dX3_checkDocument_1 (by decide) (fun c1 => ?_) (fun c1 => ?_)
  · exact absurd c1 (nI_pos (by omega))
  · refine lv_iload_n hx hb dX3_checkDocument_4 rfl (lv_at hl 1 rfl) ?_
    refine lv_iconst (v := nI 4) hx hb dX3_checkDocument_5 (by decide) ?_
    refine r_icmp_ltN hx hb (x := d) (y := 4) (by first | omega | decide) (by first | omega | decide) (tgt := 19) dX3_checkDocument_6 (by decide) (fun c6 => ?_) (fun c6 => ?_)
    · exact W.vret hx hb hr (fun t ht hW => ⟨rfl, trivial, ht⟩) (fun _ h => by cases h) dX3_checkDocument_19
    · omega
set_option maxHeartbeats 8000000 in
set_option maxRecDepth 100000 in
theorem cX3_checkRevision_ok (l : Launch) (D : va_G) (ct : Nat → ClassId) (r : Nat → Nat) (u : Nat → Nat) (sa : Nat → Nat → Nat) (a : Nat → Nat) (n : Nat) (dc : Nat → Nat) (pa : Nat → Option Nat) (va : Nat → Int32) (dl : Nat → Bool) (ge : Nat → Nat) (su : Nat → Int32) (k : Nat) (hn : n ≤ 150) (hk : k < n) : Met l yX3_checkRevision wsX3_checkRevision ({ frames := 0, cells := 0, slots := 0, locals := 0 } : Room) (roPc D ct [.ref (r 0), .int (nI k)] (wR ct r a u sa ++ wT ct a n dc pa va dl ge su)) (va_Sv (fun _ => True)) 0 0 (fun _ => False) := by
  refine Met.ofW (cc := cX3_checkRevision) (maxL := 2) (ret := none) (by decide) rfl ?_
  intro p e s m args below meth c s₁ B hml hv
  obtain ⟨rfl, hP, hK⟩ := hv
  have hx := B.exec
  have hb := B.bytes
  have hr := B.returns
  have hts := atoms_spec (ws := wsX3_checkRevision) B.pre
  have hown : s.vm.findClass RX3 = some m.cls := findClass_of_methodNamed B.named
  have hlocks := B.notSynchronized
  have hl := lv_entry ([.ref (r 0), .int (nI k)]) (n := 2) (Nat.le_of_ble_eq_true rfl)
  rw [lg_entry_eq]
  generalize (lg_sl ([.ref (r 0), .int (nI k)]) ++ List.replicate (2 - (lg_sl ([.ref (r 0), .int (nI k)])).length) Slot.unset).toArray = ls at hl ⊢
  have hl : lv_has ls 2 [(0, .ref (r 0)), (1, .int (nI k))] := hl
  refine lv_iload_n hx hb dX3_checkRevision_0 rfl (lv_at hl 1 rfl) ?_
  refine lv_if_lt (x := nI k) (tgt := 15) hx hb dX3_checkRevision_1 (by decide) (fun c1 => ?_) (fun c1 => ?_)
  · exact absurd c1 (nI_pos (by omega))
  · refine lv_iload_n hx hb dX3_checkRevision_4 rfl (lv_at hl 1 rfl) ?_
    refine lv_aload_n hx hb dX3_checkRevision_5 rfl (lv_at hl 0 rfl) ?_
    refine va_get (D := D) (ci := 3) (v := .ref (a 0)) (C := RX3) (T := TX3) (N := 3) hx hb hts (fun _ h => List.mem_cons_of_mem _ (List.mem_append_left _ (List.mem_append_left _ (List.mem_append_right _ h)))) hown hK.1 hP 0 rfl rfl 0 (by decide) (hts (.fieldLink RX3 10 "RevisionStores" "tree" "LRevisionStores$Tree;") (List.mem_of_getElem? (i := 3) rfl)) (fun _ h9 => h9) rfl dX3_checkRevision_6 ?_
    refine va_getN (D := D) (ci := 2) (v := .int (nI n)) (C := RX2) (T := TX2) (N := 7) hx hb hts (fun _ h => List.mem_cons_of_mem _ (List.mem_append_left _ (List.mem_append_right _ h))) hown hK.1 hP 2 rfl rfl 6 (by decide) (va_Nw.use rfl (hK.2 _ (List.mem_of_getElem? (i := 8) rfl))) (fun _ h9 => h9) rfl dX3_checkRevision_9 ?_
    refine r_icmp_ltN hx hb (x := k) (y := n) (by first | omega | decide) (by first | omega | decide) (tgt := 25) dX3_checkRevision_12 (by decide) (fun c12 => ?_) (fun c12 => ?_)
    · exact W.vret hx hb hr (fun t ht hW => ⟨rfl, trivial, ht⟩) (fun _ h => by cases h) dX3_checkRevision_25
    · omega
set_option maxHeartbeats 8000000 in
set_option maxRecDepth 100000 in
theorem cX3_checkDifferent_ok (l : Launch) (D : va_G) (ct : Nat → ClassId) (r : Nat → Nat) (u : Nat → Nat) (sa : Nat → Nat → Nat) (a : Nat → Nat) (i : Nat) (j : Nat) (hi : i < 3) (hj : j < 3) (hij : i ≠ j) : Met l yX3_checkDifferent wsX3_checkDifferent ({ frames := 0, cells := 0, slots := 0, locals := 0 } : Room) (roPc D ct [.ref (r 0), .int (nI i), .int (nI j)] (wR ct r a u sa)) (va_Sv (fun _ => True)) 0 0 (fun _ => False) := by
  refine Met.ofW (cc := cX3_checkDifferent) (maxL := 3) (ret := none) (by decide) rfl ?_
  intro p e s m args below meth c s₁ B hml hv
  obtain ⟨rfl, hP, hK⟩ := hv
  have hx := B.exec
  have hb := B.bytes
  have hr := B.returns
  have hts := atoms_spec (ws := wsX3_checkDifferent) B.pre
  have hown : s.vm.findClass RX3 = some m.cls := findClass_of_methodNamed B.named
  have hlocks := B.notSynchronized
  have hl := lv_entry ([.ref (r 0), .int (nI i), .int (nI j)]) (n := 3) (Nat.le_of_ble_eq_true rfl)
  rw [lg_entry_eq]
  generalize (lg_sl ([.ref (r 0), .int (nI i), .int (nI j)]) ++ List.replicate (3 - (lg_sl ([.ref (r 0), .int (nI i), .int (nI j)])).length) Slot.unset).toArray = ls at hl ⊢
  have hl : lv_has ls 3 [(0, .ref (r 0)), (1, .int (nI i)), (2, .int (nI j))] := hl
  refine lv_iload_n hx hb dX3_checkDifferent_0 rfl (lv_at hl 1 rfl) ?_
  refine lv_iload_n hx hb dX3_checkDifferent_1 rfl (lv_at hl 2 rfl) ?_
  refine r_icmp_neN hx hb (x := i) (y := j) (by first | omega | decide) (by first | omega | decide) (tgt := 15) dX3_checkDifferent_2 (by decide) (fun c2 => ?_) (fun c2 => ?_)
  · exact W.vret hx hb hr (fun t ht hW => ⟨rfl, trivial, ht⟩) (fun _ h => by cases h) dX3_checkDifferent_15
  · exact absurd c2 hij
set_option maxHeartbeats 8000000 in
set_option maxRecDepth 100000 in
theorem cX3_checkNotBegun_ok (l : Launch) (D : va_G) (ct : Nat → ClassId) (r : Nat → Nat) (u : Nat → Nat) (sa : Nat → Nat → Nat) (a : Nat → Nat) (z : Nat → Nat) (dp : Int32) (lt : Int32) (ch : Nat → Int32) (ck : Nat → Int32) (h : Nat → Nat) (hd : Nat → Bool) (nl : Nat → Nat) (wi : Nat → Option Nat) (d : Nat) (hd4 : d < 4) (hw : wi d = none) : Met l yX3_checkNotBegun wsX3_checkNotBegun ({ frames := 0, cells := 0, slots := 0, locals := 0 } : Room) (roPc D ct [.ref (r 0), .ref (z 0), .int (nI d)] (wR ct r a u sa ++ wS ct z h dp lt ch ck ++ wH ct h hd nl wi)) (va_Sv (fun _ => True)) 0 0 (fun _ => False) := by
  refine Met.ofW (cc := cX3_checkNotBegun) (maxL := 3) (ret := none) (by decide) rfl ?_
  intro p e s m args below meth c s₁ B hml hv
  obtain ⟨rfl, hP, hK⟩ := hv
  have hx := B.exec
  have hb := B.bytes
  have hr := B.returns
  have hts := atoms_spec (ws := wsX3_checkNotBegun) B.pre
  have hown : s.vm.findClass RX3 = some m.cls := findClass_of_methodNamed B.named
  have hlocks := B.notSynchronized
  have hl := lv_entry ([.ref (r 0), .ref (z 0), .int (nI d)]) (n := 3) (Nat.le_of_ble_eq_true rfl)
  rw [lg_entry_eq]
  generalize (lg_sl ([.ref (r 0), .ref (z 0), .int (nI d)]) ++ List.replicate (3 - (lg_sl ([.ref (r 0), .ref (z 0), .int (nI d)])).length) Slot.unset).toArray = ls at hl ⊢
  have hl : lv_has ls 3 [(0, .ref (r 0)), (1, .ref (z 0)), (2, .int (nI d))] := hl
  refine lv_aload_n hx hb dX3_checkNotBegun_0 rfl (lv_at hl 1 rfl) ?_
  refine va_getN (D := D) (ci := 1) (v := .ref (h 0)) (C := RX1) (T := TX1) (N := 5) hx hb hts (fun _ h => List.mem_cons_of_mem _ (List.mem_append_left _ (List.mem_append_left _ (List.mem_append_right _ h)))) hown hK.1 hP 2 rfl rfl 0 (by decide) (va_Nw.use rfl (hK.2 _ (List.mem_of_getElem? (i := 4) rfl))) (fun _ h9 => h9) rfl dX3_checkNotBegun_1 ?_
  refine va_getN (D := D) (ci := 0) (v := .ref (h 3)) (C := RX0) (T := TX0) (N := 3) hx hb hts (fun _ h => List.mem_cons_of_mem _ (List.mem_append_left _ (List.mem_append_right _ h))) hown hK.1 hP 5 rfl rfl 2 (by decide) (va_Nw.use rfl (hK.2 _ (List.mem_of_getElem? (i := 15) rfl))) (fun _ h9 => h9) rfl dX3_checkNotBegun_4 ?_
  refine lv_iload_n hx hb dX3_checkNotBegun_7 rfl (lv_at hl 2 rfl) ?_
  refine r_iald (j := d) (v := eP (wi d)) hx hb hK.1 hP 8 0 rfl rfl (by omega) (by first | decide | omega) rfl dX3_checkNotBegun_8 ?_
  refine lv_iconst (v := -1) hx hb dX3_checkNotBegun_9 (by decide) ?_
  refine r_icmp_eqP hx hb (x := wi d) (by intro j9 h9; rw [hw] at h9; cases h9) (tgt := 23) dX3_checkNotBegun_10 (by decide) (fun c10 => ?_) (fun j10 c10 => ?_)
  · exact W.vret hx hb hr (fun t ht hW => ⟨rfl, trivial, ht⟩) (fun _ h => by cases h) dX3_checkNotBegun_23
  · exact absurd c10 (by rw [hw]; exact fun h => by cases h)
set_option maxHeartbeats 8000000 in
set_option maxRecDepth 100000 in
theorem cX3_checkNotBegun_bad (l : Launch) (hlt : l.stackTraces = false) (D : va_G) (ct : Nat → ClassId) (r : Nat → Nat) (u : Nat → Nat) (sa : Nat → Nat → Nat) (a : Nat → Nat) (z : Nat → Nat) (dp : Int32) (lt : Int32) (ch : Nat → Int32) (ck : Nat → Int32) (h : Nat → Nat) (hd : Nat → Bool) (nl : Nat → Nat) (wi : Nat → Option Nat) (d : Nat) (j : Nat) (hd4 : d < 4) (hw : wi d = some j) (hj9 : j < 150) : vx_Met l yX3_checkNotBegun wsX3_checkNotBegun ({ frames := 6, cells := 1, slots := 6, locals := 90 } : Room) (bdPc D ct [.ref (r 0), .ref (z 0), .int (nI d)] (wR ct r a u sa ++ wS ct z h dp lt ch ck ++ wH ct h hd nl wi)) bdQ (bdX eS) 1 6 (fun _ => False) := by
  refine vx_ofW (cc := cX3_checkNotBegun) (maxL := 3) (ret := none) (by decide) rfl ?_
  intro p e s m args below meth c s₁ B hml ht9 hv
  obtain ⟨rfl, hP, hK, hT⟩ := hv
  have hx := B.exec
  have hb := B.bytes
  have hr := B.returns
  have hts := atoms_spec (ws := wsX3_checkNotBegun) B.pre
  have hown : s.vm.findClass RX3 = some m.cls := findClass_of_methodNamed B.named
  have hlocks := B.notSynchronized
  have hl := lv_entry ([.ref (r 0), .ref (z 0), .int (nI d)]) (n := 3) (Nat.le_of_ble_eq_true rfl)
  rw [lg_entry_eq]
  generalize (lg_sl ([.ref (r 0), .ref (z 0), .int (nI d)]) ++ List.replicate (3 - (lg_sl ([.ref (r 0), .ref (z 0), .int (nI d)])).length) Slot.unset).toArray = ls at hl ⊢
  have hl : lv_has ls 3 [(0, .ref (r 0)), (1, .ref (z 0)), (2, .int (nI d))] := hl
  refine lv_aload_n hx hb dX3_checkNotBegun_0 rfl (lv_at hl 1 rfl) ?_
  refine va_getN (D := D) (ci := 1) (v := .ref (h 0)) (C := RX1) (T := TX1) (N := 5) hx hb hts (fun _ h => List.mem_cons_of_mem _ (List.mem_append_left _ (List.mem_append_left _ (List.mem_append_right _ h)))) hown hK.1 hP 2 rfl rfl 0 (by decide) (va_Nw.use rfl (hK.2 _ (List.mem_of_getElem? (i := 4) rfl))) (fun _ h9 => h9) rfl dX3_checkNotBegun_1 ?_
  refine va_getN (D := D) (ci := 0) (v := .ref (h 3)) (C := RX0) (T := TX0) (N := 3) hx hb hts (fun _ h => List.mem_cons_of_mem _ (List.mem_append_left _ (List.mem_append_right _ h))) hown hK.1 hP 5 rfl rfl 2 (by decide) (va_Nw.use rfl (hK.2 _ (List.mem_of_getElem? (i := 15) rfl))) (fun _ h9 => h9) rfl dX3_checkNotBegun_4 ?_
  refine lv_iload_n hx hb dX3_checkNotBegun_7 rfl (lv_at hl 2 rfl) ?_
  refine r_iald (j := d) (v := eP (wi d)) hx hb hK.1 hP 8 0 rfl rfl (by omega) (by first | decide | omega) rfl dX3_checkNotBegun_8 ?_
  refine lv_iconst (v := -1) hx hb dX3_checkNotBegun_9 (by decide) ?_
  refine r_icmp_eqP hx hb (x := wi d) (by intro j9 h9; rw [hw] at h9; cases h9; omega) (tgt := 23) dX3_checkNotBegun_10 (by decide) (fun c10 => ?_) (fun j10 c10 => ?_)
  · exact absurd c10 (by rw [hw]; exact fun h => by cases h)
  · exact r_thrS (cc := cX3_checkNotBegun) (text := "the store has revisions of the document") (is := 193) (rest := []) hx hb hlt hT hown ((hts (.classLink RX3 67 "java/lang/IllegalStateException") (List.mem_of_getElem? (i := 1) rfl))) ((hts (.initialized "java/lang/IllegalStateException") (List.mem_of_getElem? (i := 2) rfl))) (fun w h => hts w (List.mem_cons_of_mem _ (List.mem_append_right _ h))) (by decide) (by rw [hml]; exact hl.1) dX3_checkNotBegun_13 dX3_checkNotBegun_16 dX3_checkNotBegun_17 dX3_checkNotBegun_19 dX3_checkNotBegun_22 ht9 hlocks (by decide) (by decide) (by decide) (by decide)
set_option maxHeartbeats 8000000 in
set_option maxRecDepth 100000 in
theorem cX3_checkLeaf_ok (l : Launch) (D : va_G) (ct : Nat → ClassId) (r : Nat → Nat) (u : Nat → Nat) (sa : Nat → Nat → Nat) (a : Nat → Nat) (n : Nat) (dc : Nat → Nat) (pa : Nat → Option Nat) (va : Nat → Int32) (dl : Nat → Bool) (ge : Nat → Nat) (su : Nat → Int32) (z : Nat → Nat) (dp : Int32) (lt : Int32) (ch : Nat → Int32) (ck : Nat → Int32) (h : Nat → Nat) (hd : Nat → Bool) (nl : Nat → Nat) (wi : Nat → Option Nat) (d : Nat) (k : Nat) (hn : n ≤ 150) (hTd : ∀ k, dc k < 4) (hNl : ∀ k, nl k ≤ 151) (hd4 : d < 4) (hk : k < n) (hdk : dc k = d) (hlf : ends hd nl k = true) : Met l yX3_checkLeaf wsX3_checkLeaf ({ frames := 2, cells := 0, slots := 0, locals := 42 } : Room) (roPc D ct [.ref (r 0), .ref (z 0), .int (nI d), .int (nI k)] (wR ct r a u sa ++ wT ct a n dc pa va dl ge su ++ wS ct z h dp lt ch ck ++ wH ct h hd nl wi)) (va_Sv (fun _ => True)) 0 0 (fun _ => False) := by
  refine Met.ofW (cc := cX3_checkLeaf) (maxL := 4) (ret := none) (by decide) rfl ?_
  intro p e s m args below meth c s₁ B hml hv
  obtain ⟨rfl, hP, hK⟩ := hv
  have hx := B.exec
  have hb := B.bytes
  have hr := B.returns
  have hts := atoms_spec (ws := wsX3_checkLeaf) B.pre
  have hown : s.vm.findClass RX3 = some m.cls := findClass_of_methodNamed B.named
  have hlocks := B.notSynchronized
  have hl := lv_entry ([.ref (r 0), .ref (z 0), .int (nI d), .int (nI k)]) (n := 4) (Nat.le_of_ble_eq_true rfl)
  rw [lg_entry_eq]
  generalize (lg_sl ([.ref (r 0), .ref (z 0), .int (nI d), .int (nI k)]) ++ List.replicate (4 - (lg_sl ([.ref (r 0), .ref (z 0), .int (nI d), .int (nI k)])).length) Slot.unset).toArray = ls at hl ⊢
  have hl : lv_has ls 4 [(0, .ref (r 0)), (1, .ref (z 0)), (2, .int (nI d)), (3, .int (nI k))] := hl
  refine lv_aload_n hx hb dX3_checkLeaf_0 rfl (lv_at hl 0 rfl) ?_
  refine va_get (D := D) (ci := 3) (v := .ref (a 0)) (C := RX3) (T := TX3) (N := 3) hx hb hts (fun _ h => List.mem_cons_of_mem _ (List.mem_append_left _ (List.mem_append_left _ (List.mem_append_left _ (List.mem_append_left _ (List.mem_append_right _ h)))))) hown hK.1 hP 0 rfl rfl 0 (by decide) (hts (.fieldLink RX3 10 "RevisionStores" "tree" "LRevisionStores$Tree;") (List.mem_of_getElem? (i := 3) rfl)) (fun _ h9 => h9) rfl dX3_checkLeaf_1 ?_
  refine va_getN (D := D) (ci := 2) (v := .ref (a 1)) (C := RX2) (T := TX2) (N := 7) hx hb hts (fun _ h => List.mem_cons_of_mem _ (List.mem_append_left _ (List.mem_append_left _ (List.mem_append_left _ (List.mem_append_right _ h))))) hown hK.1 hP 2 rfl rfl 0 (by decide) (va_Nw.use rfl (hK.2 _ (List.mem_of_getElem? (i := 9) rfl))) (fun _ h9 => h9) rfl dX3_checkLeaf_4 ?_
  refine lv_iload_n hx hb dX3_checkLeaf_7 rfl (lv_at hl 3 rfl) ?_
  refine r_iald (j := k) (v := nI (dc k)) hx hb hK.1 hP 3 0 rfl rfl (by omega) (by first | decide | omega) rfl dX3_checkLeaf_8 ?_
  have f8 := hTd k
  refine lv_iload_n hx hb dX3_checkLeaf_9 rfl (lv_at hl 2 rfl) ?_
  refine r_icmp_neN hx hb (x := dc k) (y := d) (by first | omega | decide) (by first | omega | decide) (tgt := 24) dX3_checkLeaf_10 (by decide) (fun c10 => ?_) (fun c10 => ?_)
  · exact absurd hdk c10
  · refine lv_aload_n hx hb dX3_checkLeaf_13 rfl (lv_at hl 1 rfl) ?_
    refine va_getN (D := D) (ci := 1) (v := .ref (h 0)) (C := RX1) (T := TX1) (N := 5) hx hb hts (fun _ h => List.mem_cons_of_mem _ (List.mem_append_left _ (List.mem_append_left _ (List.mem_append_right _ h)))) hown hK.1 hP 9 rfl rfl 0 (by decide) (va_Nw.use rfl (hK.2 _ (List.mem_of_getElem? (i := 4) rfl))) (fun _ h9 => h9) rfl dX3_checkLeaf_14 ?_
    refine lv_iload_n hx hb dX3_checkLeaf_17 rfl (lv_at hl 3 rfl) ?_
    refine r_cV (As := [.int (nI k)]) (rest := []) ⟨hx, hb, hml, hown, hts⟩ (cX0_endsAt_ok l D ct h hd nl wi k (by first | assumption | omega) (hNl _)) (cwV 1 hts gX3_checkLeaf_X0_endsAt rfl rfl rfl (by decide +kernel) ⟨Nat.le_of_ble_eq_true rfl, Nat.le_of_ble_eq_true rfl⟩) hK (hP.sub (ws' := wH ct h hd nl wi) [12, 13, 14, 15] rfl) 0 0 rfl rfl rfl hl.1 rfl (Nat.le_of_ble_eq_true rfl) dX3_checkLeaf_18 ⟨Nat.le_of_ble_eq_true rfl, Nat.le_of_ble_eq_true rfl⟩ ?_
    refine r_if_neB (x := ends hd nl k) (tgt := 34) hx hb dX3_checkLeaf_21 (by decide) (fun c21 => ?_) (fun c21 => ?_)
    · exact W.vret hx hb hr (fun t ht hW => ⟨rfl, trivial, ht⟩) (fun _ h => by cases h) dX3_checkLeaf_34
    · rw [hlf] at c21; cases c21
set_option maxHeartbeats 8000000 in
set_option maxRecDepth 100000 in
theorem cX3_checkLeaf_bad (l : Launch) (hlt : l.stackTraces = false) (D : va_G) (ct : Nat → ClassId) (r : Nat → Nat) (u : Nat → Nat) (sa : Nat → Nat → Nat) (a : Nat → Nat) (n : Nat) (dc : Nat → Nat) (pa : Nat → Option Nat) (va : Nat → Int32) (dl : Nat → Bool) (ge : Nat → Nat) (su : Nat → Int32) (z : Nat → Nat) (dp : Int32) (lt : Int32) (ch : Nat → Int32) (ck : Nat → Int32) (h : Nat → Nat) (hd : Nat → Bool) (nl : Nat → Nat) (wi : Nat → Option Nat) (d : Nat) (k : Nat) (hn : n ≤ 150) (hTd : ∀ k, dc k < 4) (hNl : ∀ k, nl k ≤ 151) (hd4 : d < 4) (hk : k < n) (hbad : (decide (dc k = d) && ends hd nl k) = false) : vx_Met l yX3_checkLeaf wsX3_checkLeaf ({ frames := 6, cells := 1, slots := 6, locals := 90 } : Room) (bdPc D ct [.ref (r 0), .ref (z 0), .int (nI d), .int (nI k)] (wR ct r a u sa ++ wT ct a n dc pa va dl ge su ++ wS ct z h dp lt ch ck ++ wH ct h hd nl wi)) bdQ (bdX eS) 1 6 (fun _ => False) := by
  refine vx_ofW (cc := cX3_checkLeaf) (maxL := 4) (ret := none) (by decide) rfl ?_
  intro p e s m args below meth c s₁ B hml ht9 hv
  obtain ⟨rfl, hP, hK, hT⟩ := hv
  have hx := B.exec
  have hb := B.bytes
  have hr := B.returns
  have hts := atoms_spec (ws := wsX3_checkLeaf) B.pre
  have hown : s.vm.findClass RX3 = some m.cls := findClass_of_methodNamed B.named
  have hlocks := B.notSynchronized
  have hl := lv_entry ([.ref (r 0), .ref (z 0), .int (nI d), .int (nI k)]) (n := 4) (Nat.le_of_ble_eq_true rfl)
  rw [lg_entry_eq]
  generalize (lg_sl ([.ref (r 0), .ref (z 0), .int (nI d), .int (nI k)]) ++ List.replicate (4 - (lg_sl ([.ref (r 0), .ref (z 0), .int (nI d), .int (nI k)])).length) Slot.unset).toArray = ls at hl ⊢
  have hl : lv_has ls 4 [(0, .ref (r 0)), (1, .ref (z 0)), (2, .int (nI d)), (3, .int (nI k))] := hl
  refine lv_aload_n hx hb dX3_checkLeaf_0 rfl (lv_at hl 0 rfl) ?_
  refine va_get (D := D) (ci := 3) (v := .ref (a 0)) (C := RX3) (T := TX3) (N := 3) hx hb hts (fun _ h => List.mem_cons_of_mem _ (List.mem_append_left _ (List.mem_append_left _ (List.mem_append_left _ (List.mem_append_left _ (List.mem_append_right _ h)))))) hown hK.1 hP 0 rfl rfl 0 (by decide) (hts (.fieldLink RX3 10 "RevisionStores" "tree" "LRevisionStores$Tree;") (List.mem_of_getElem? (i := 3) rfl)) (fun _ h9 => h9) rfl dX3_checkLeaf_1 ?_
  refine va_getN (D := D) (ci := 2) (v := .ref (a 1)) (C := RX2) (T := TX2) (N := 7) hx hb hts (fun _ h => List.mem_cons_of_mem _ (List.mem_append_left _ (List.mem_append_left _ (List.mem_append_left _ (List.mem_append_right _ h))))) hown hK.1 hP 2 rfl rfl 0 (by decide) (va_Nw.use rfl (hK.2 _ (List.mem_of_getElem? (i := 9) rfl))) (fun _ h9 => h9) rfl dX3_checkLeaf_4 ?_
  refine lv_iload_n hx hb dX3_checkLeaf_7 rfl (lv_at hl 3 rfl) ?_
  refine r_iald (j := k) (v := nI (dc k)) hx hb hK.1 hP 3 0 rfl rfl (by omega) (by first | decide | omega) rfl dX3_checkLeaf_8 ?_
  have f8 := hTd k
  refine lv_iload_n hx hb dX3_checkLeaf_9 rfl (lv_at hl 2 rfl) ?_
  refine r_icmp_neN hx hb (x := dc k) (y := d) (by first | omega | decide) (by first | omega | decide) (tgt := 24) dX3_checkLeaf_10 (by decide) (fun c10 => ?_) (fun c10 => ?_)
  · exact r_thrS (cc := cX3_checkLeaf) (text := "revision is no leaf of the document in the store") (is := 195) (rest := []) hx hb hlt hT hown ((hts (.classLink RX3 67 "java/lang/IllegalStateException") (List.mem_of_getElem? (i := 1) rfl))) ((hts (.initialized "java/lang/IllegalStateException") (List.mem_of_getElem? (i := 2) rfl))) (fun w h => hts w (List.mem_cons_of_mem _ (List.mem_append_right _ h))) (by decide) (by rw [hml]; exact hl.1) dX3_checkLeaf_24 dX3_checkLeaf_27 dX3_checkLeaf_28 dX3_checkLeaf_30 dX3_checkLeaf_33 ht9 hlocks (by decide) (by decide) (by decide) (by decide)
  · refine lv_aload_n hx hb dX3_checkLeaf_13 rfl (lv_at hl 1 rfl) ?_
    refine va_getN (D := D) (ci := 1) (v := .ref (h 0)) (C := RX1) (T := TX1) (N := 5) hx hb hts (fun _ h => List.mem_cons_of_mem _ (List.mem_append_left _ (List.mem_append_left _ (List.mem_append_right _ h)))) hown hK.1 hP 9 rfl rfl 0 (by decide) (va_Nw.use rfl (hK.2 _ (List.mem_of_getElem? (i := 4) rfl))) (fun _ h9 => h9) rfl dX3_checkLeaf_14 ?_
    refine lv_iload_n hx hb dX3_checkLeaf_17 rfl (lv_at hl 3 rfl) ?_
    refine r_cV (As := [.int (nI k)]) (rest := []) ⟨hx, hb, hml, hown, hts⟩ (cX0_endsAt_ok l D ct h hd nl wi k (by first | assumption | omega) (hNl _)) (cwV 1 hts gX3_checkLeaf_X0_endsAt rfl rfl rfl (by decide +kernel) ⟨Nat.le_of_ble_eq_true rfl, Nat.le_of_ble_eq_true rfl⟩) hK (hP.sub (ws' := wH ct h hd nl wi) [12, 13, 14, 15] rfl) 0 0 rfl rfl rfl hl.1 rfl (Nat.le_of_ble_eq_true rfl) dX3_checkLeaf_18 ⟨Nat.le_of_ble_eq_true rfl, Nat.le_of_ble_eq_true rfl⟩ ?_
    refine r_if_neB (x := ends hd nl k) (tgt := 34) hx hb dX3_checkLeaf_21 (by decide) (fun c21 => ?_) (fun c21 => ?_)
    · rw [c10, c21] at hbad; simp at hbad
    · exact r_thrS (cc := cX3_checkLeaf) (text := "revision is no leaf of the document in the store") (is := 195) (rest := []) hx hb hlt hT hown ((hts (.classLink RX3 67 "java/lang/IllegalStateException") (List.mem_of_getElem? (i := 1) rfl))) ((hts (.initialized "java/lang/IllegalStateException") (List.mem_of_getElem? (i := 2) rfl))) (fun w h => hts w (List.mem_cons_of_mem _ (List.mem_append_right _ h))) (by decide) (by rw [hml]; exact hl.1) dX3_checkLeaf_24 dX3_checkLeaf_27 dX3_checkLeaf_28 dX3_checkLeaf_30 dX3_checkLeaf_33 ht9 hlocks (by decide) (by decide) (by decide) (by decide)
set_option maxHeartbeats 8000000 in
set_option maxRecDepth 100000 in
theorem cX3_checkRoom_ok (l : Launch) (D : va_G) (ct : Nat → ClassId) (r : Nat → Nat) (u : Nat → Nat) (sa : Nat → Nat → Nat) (a : Nat → Nat) (n : Nat) (dc : Nat → Nat) (pa : Nat → Option Nat) (va : Nat → Int32) (dl : Nat → Bool) (ge : Nat → Nat) (su : Nat → Int32) (hn9 : n < 150) : Met l yX3_checkRoom wsX3_checkRoom ({ frames := 0, cells := 0, slots := 0, locals := 0 } : Room) (roPc D ct [.ref (r 0)] (wR ct r a u sa ++ wT ct a n dc pa va dl ge su)) (va_Sv (fun _ => True)) 0 0 (fun _ => False) := by
  refine Met.ofW (cc := cX3_checkRoom) (maxL := 1) (ret := none) (by decide) rfl ?_
  intro p e s m args below meth c s₁ B hml hv
  obtain ⟨rfl, hP, hK⟩ := hv
  have hx := B.exec
  have hb := B.bytes
  have hr := B.returns
  have hts := atoms_spec (ws := wsX3_checkRoom) B.pre
  have hown : s.vm.findClass RX3 = some m.cls := findClass_of_methodNamed B.named
  have hlocks := B.notSynchronized
  have hl := lv_entry ([.ref (r 0)]) (n := 1) (Nat.le_of_ble_eq_true rfl)
  rw [lg_entry_eq]
  generalize (lg_sl ([.ref (r 0)]) ++ List.replicate (1 - (lg_sl ([.ref (r 0)])).length) Slot.unset).toArray = ls at hl ⊢
  have hl : lv_has ls 1 [(0, .ref (r 0))] := hl
  refine lv_aload_n hx hb dX3_checkRoom_0 rfl (lv_at hl 0 rfl) ?_
  refine va_get (D := D) (ci := 3) (v := .ref (a 0)) (C := RX3) (T := TX3) (N := 3) hx hb hts (fun _ h => List.mem_cons_of_mem _ (List.mem_append_left _ (List.mem_append_left _ (List.mem_append_right _ h)))) hown hK.1 hP 0 rfl rfl 0 (by decide) (hts (.fieldLink RX3 10 "RevisionStores" "tree" "LRevisionStores$Tree;") (List.mem_of_getElem? (i := 3) rfl)) (fun _ h9 => h9) rfl dX3_checkRoom_1 ?_
  refine va_getN (D := D) (ci := 2) (v := .int (nI n)) (C := RX2) (T := TX2) (N := 7) hx hb hts (fun _ h => List.mem_cons_of_mem _ (List.mem_append_left _ (List.mem_append_right _ h))) hown hK.1 hP 2 rfl rfl 6 (by decide) (va_Nw.use rfl (hK.2 _ (List.mem_of_getElem? (i := 8) rfl))) (fun _ h9 => h9) rfl dX3_checkRoom_4 ?_
  refine lv_sipush (v := nI 150) hx hb dX3_checkRoom_7 (by decide) ?_
  refine r_icmp_ltN hx hb (x := n) (y := 150) (by first | omega | decide) (by first | omega | decide) (tgt := 23) dX3_checkRoom_10 (by decide) (fun c10 => ?_) (fun c10 => ?_)
  · exact W.vret hx hb hr (fun t ht hW => ⟨rfl, trivial, ht⟩) (fun _ h => by cases h) dX3_checkRoom_23
  · omega
set_option maxHeartbeats 8000000 in
set_option maxRecDepth 100000 in
theorem cX3_grow_found (l : Launch) (D : va_G) (ct : Nat → ClassId) (r : Nat → Nat) (u : Nat → Nat) (sa : Nat → Nat → Nat) (a : Nat → Nat) (n : Nat) (dc : Nat → Nat) (pa : Nat → Option Nat) (va : Nat → Int32) (dl : Nat → Bool) (ge : Nat → Nat) (su : Nat → Int32) (z : Nat → Nat) (dp : Int32) (lt : Int32) (ch : Nat → Int32) (ck : Nat → Int32) (h : Nat → Nat) (hd : Nat → Bool) (nl : Nat → Nat) (wi : Nat → Option Nat) (d : Nat) (o : Option Nat) (v : Int32) (b : Bool) (j : Nat) (hn : n ≤ 150) (hTd : ∀ k, dc k < 4) (hTg : ∀ k, ge k ≤ 150) (hTp : ∀ k j, k < n → pa k = some j → j < k) (hd4 : d < 4) (ho : ∀ j, o = some j → j < n) (hf : ffd (fnd dc pa va dl d o v b) n = some j) (hjn : j < n) (sz : Nat) : Met l yX3_grow wsX3_grow ({ frames := 6, cells := 0, slots := 0, locals := 131 } : Room) (wrPc D ct [.ref (r 0), .ref (z 0), .int (nI d), .int (eP o), .int v, .int (bI b)] (wR ct r a u sa ++ wT ct a n dc pa va dl ge su ++ wS ct z h dp lt ch ck ++ wH ct h hd nl wi) sz) (wqI D (nI j) (wR ct r a u sa ++ wT ct a n dc pa va dl ge su ++ wS ct z h dp (lt + nI 1) (va_up ch (dc j) (lt + nI 1)) ck ++ wH ct h (stm (va_up hd j true) (flS pa ge (va_up hd j true) n n) ge dp n) (flS pa ge (va_up hd j true) n n) (fwS dc dl ge su (ends (va_up hd j true) (flS pa ge (va_up hd j true) n n)) n)) (va_A (wR ct r a u sa ++ wT ct a n dc pa va dl ge su ++ wS ct z h dp lt ch ck ++ wH ct h hd nl wi) sz)) 0 0 (va_A (wR ct r a u sa ++ wT ct a n dc pa va dl ge su ++ wS ct z h dp lt ch ck ++ wH ct h hd nl wi) sz) := by
  refine Met.ofW (cc := cX3_grow) (maxL := 7) (ret := (some .int)) (by decide) rfl ?_
  intro p e s m args below meth c s₁ B hml hv
  obtain ⟨rfl, hsz, hP, hK, hD0⟩ := hv
  have hx := B.exec
  have hb := B.bytes
  have hr := B.returns
  have hts := atoms_spec (ws := wsX3_grow) B.pre
  have hown : s.vm.findClass RX3 = some m.cls := findClass_of_methodNamed B.named
  have hlocks := B.notSynchronized
  subst hsz
  have hD := hD0.self (sz := s.heap.size)
  generalize hAe : va_A (wR ct r a u sa ++ wT ct a n dc pa va dl ge su ++ wS ct z h dp lt ch ck ++ wH ct h hd nl wi) s.heap.size = A at hD ⊢
  have hA : ∀ q : Nat, s.heap.size ≤ q → A q := fun q h => by rw [← hAe]; exact Or.inr h
  have hS : va_S A s.heap s.heap [] := va_S.rf
  have hP : va_P D vwCl (wR ct r a u sa ++ wT ct a n dc pa va dl ge su ++ wS ct z h dp lt ch ck ++ wH ct h hd nl wi) s.heap := hP
  clear hAe hD0
  have hl := lv_entry ([.ref (r 0), .ref (z 0), .int (nI d), .int (eP o), .int v, .int (bI b)]) (n := 7) (Nat.le_of_ble_eq_true rfl)
  rw [lg_entry_eq]
  generalize (lg_sl ([.ref (r 0), .ref (z 0), .int (nI d), .int (eP o), .int v, .int (bI b)]) ++ List.replicate (7 - (lg_sl ([.ref (r 0), .ref (z 0), .int (nI d), .int (eP o), .int v, .int (bI b)])).length) Slot.unset).toArray = ls at hl ⊢
  have hl : lv_has ls 7 [(0, .ref (r 0)), (1, .ref (z 0)), (2, .int (nI d)), (3, .int (eP o)), (4, .int v), (5, .int (bI b))] := hl
  have hH0 : s.heap.size ≤ s.heap.size := Nat.le_refl _
  refine lv_aload_n hx hb dX3_grow_0 rfl (lv_at hl 0 rfl) ?_
  refine va_get (D := D) (ci := 3) (v := .ref (a 0)) (C := RX3) (T := TX3) (N := 3) hx hb hts (fun _ h => List.mem_cons_of_mem _ (List.mem_append_left _ (List.mem_append_left _ (List.mem_append_left _ (List.mem_append_right _ h))))) hown hK.1 hP 0 rfl rfl 0 (by decide) (hts (.fieldLink RX3 10 "RevisionStores" "tree" "LRevisionStores$Tree;") (List.mem_of_getElem? (i := 1) rfl)) (fun _ h9 => h9) rfl dX3_grow_1 ?_
  refine lv_iload_n hx hb dX3_grow_4 rfl (lv_at hl 2 rfl) ?_
  refine lv_iload_n hx hb dX3_grow_5 rfl (lv_at hl 3 rfl) ?_
  refine lv_iload hx hb dX3_grow_6 (lv_at hl 4 rfl) ?_
  refine lv_iload hx hb dX3_grow_8 (lv_at hl 5 rfl) ?_
  refine r_cV (As := [.int (nI d), .int (eP o), .int v, .int (bI b)]) (rest := []) ⟨hx, hb, hml, hown, hts⟩ (cX2_find_ok l D ct a n dc pa va dl ge su d o v b (by first | assumption | omega) (by first | assumption | omega) (by first | assumption | omega)) (cwV 4 hts gX3_grow_X2_find rfl rfl rfl (by decide +kernel) ⟨Nat.le_of_ble_eq_true rfl, Nat.le_of_ble_eq_true rfl⟩) hK (hP.sub (ws' := wT ct a n dc pa va dl ge su) [2, 3, 4, 5, 6, 7, 8] rfl) 0 2 rfl rfl rfl hl.1 rfl (Nat.le_of_ble_eq_true rfl) dX3_grow_10 ⟨Nat.le_of_ble_eq_true rfl, Nat.le_of_ble_eq_true rfl⟩ ?_
  refine lv_istore (lv' := [(6, .int (eP (ffd (fnd dc pa va dl d o v b) n))), (0, .ref (r 0)), (1, .ref (z 0)), (2, .int (nI d)), (3, .int (eP o)), (4, .int v), (5, .int (bI b))]) hx hb dX3_grow_13 hl (by decide) rfl (fun ls hl => ?_)
  refine lv_iload hx hb dX3_grow_15 (lv_at hl 0 rfl) ?_
  refine lv_iconst (v := -1) hx hb dX3_grow_17 (by decide) ?_
  refine r_icmp_neP hx hb (x := ffd (fnd dc pa va dl d o v b) n) (by intro j9 h9; rw [hf] at h9; cases h9; omega) (tgt := 36) dX3_grow_18 (by decide) (fun j18 c18 => ?_) (fun c18 => ?_)
  · have hl := lv_re (f := fun z9 => [(6, .int z9), (0, .ref (r 0)), (1, .ref (z 0)), (2, .int (nI d)), (3, .int (eP o)), (4, .int v), (5, .int (bI b))]) hl (show eP (ffd (fnd dc pa va dl d o v b) n) = nI j18 from congrArg eP c18)
    have hl := lv_re (f := fun z9 => [(6, .int z9), (0, .ref (r 0)), (1, .ref (z 0)), (2, .int (nI d)), (3, .int (eP o)), (4, .int v), (5, .int (bI b))]) hl (show nI j18 = nI j from congrArg nI (show j18 = j from Option.some.inj (c18.symm.trans hf)))
    refine lv_aload_n hx hb dX3_grow_36 rfl (lv_at hl 2 rfl) ?_
    refine lv_aload_n hx hb dX3_grow_37 rfl (lv_at hl 1 rfl) ?_
    refine va_get (D := D) (ci := 3) (v := .ref (a 0)) (C := RX3) (T := TX3) (N := 3) hx hb hts (fun _ h => List.mem_cons_of_mem _ (List.mem_append_left _ (List.mem_append_left _ (List.mem_append_left _ (List.mem_append_right _ h))))) hown hK.1 hP 0 rfl rfl 0 (by decide) (hts (.fieldLink RX3 10 "RevisionStores" "tree" "LRevisionStores$Tree;") (List.mem_of_getElem? (i := 1) rfl)) (fun _ h9 => h9) rfl dX3_grow_38 ?_
    refine lv_iload hx hb dX3_grow_41 (lv_at hl 0 rfl) ?_
    refine r_wVv (As := [.ref (a 0), .int (nI j)]) (rest := []) ⟨hx, hb, hml, hown, hts⟩ (cX1_append_ok l D ct z dp lt ch ck h hd nl wi a n dc pa va dl ge su j (by first | assumption | omega) (by first | assumption | omega) (by first | assumption | omega) (by first | assumption | omega) (by first | assumption | omega) s.heap.size) (cwV 2 hts gX3_grow_X1_append rfl rfl rfl (by decide +kernel) ⟨Nat.le_of_ble_eq_true rfl, Nat.le_of_ble_eq_true rfl⟩) hK hP hD hS hA [9, 10, 11, 12, 13, 14, 15, 2, 3, 4, 5, 6, 7, 8] rfl rfl rfl 0 1 rfl rfl rfl hl.1 rfl (Nat.le_of_ble_eq_true rfl) dX3_grow_43 ⟨Nat.le_of_ble_eq_true rfl, Nat.le_of_ble_eq_true rfl⟩ (fun H locs hP hD hS => ?_)
    have hP : va_P D vwCl (wR ct r a u sa ++ wT ct a n dc pa va dl ge su ++ wS ct z h dp (lt + nI 1) (va_up ch (dc j) (lt + nI 1)) ck ++ wH ct h (stm (va_up hd j true) (flS pa ge (va_up hd j true) n n) ge dp n) (flS pa ge (va_up hd j true) n n) (fwS dc dl ge su (ends (va_up hd j true) (flS pa ge (va_up hd j true) n n)) n)) H := hP
    have hD : va_D A (wR ct r a u sa ++ wT ct a n dc pa va dl ge su ++ wS ct z h dp (lt + nI 1) (va_up ch (dc j) (lt + nI 1)) ck ++ wH ct h (stm (va_up hd j true) (flS pa ge (va_up hd j true) n n) ge dp n) (flS pa ge (va_up hd j true) n n) (fwS dc dl ge su (ends (va_up hd j true) (flS pa ge (va_up hd j true) n n)) n)) := hD
    refine lv_iload hx hb dX3_grow_46 (lv_at hl 0 rfl) ?_
    exact W.iret hx hb hr (fun t ht hW => ⟨⟨_, (), rfl, rfl, by show va_P D vwCl _ t.heap; rw [ht]; exact hP⟩, hS.F ht⟩) hS.2.2 dX3_grow_48
  · exact absurd c18 (by rw [hf]; exact fun h => by cases h)
set_option maxHeartbeats 8000000 in
set_option maxRecDepth 100000 in
theorem cX3_grow_new (l : Launch) (D : va_G) (ct : Nat → ClassId) (r : Nat → Nat) (u : Nat → Nat) (sa : Nat → Nat → Nat) (a : Nat → Nat) (n : Nat) (dc : Nat → Nat) (pa : Nat → Option Nat) (va : Nat → Int32) (dl : Nat → Bool) (ge : Nat → Nat) (su : Nat → Int32) (z : Nat → Nat) (dp : Int32) (lt : Int32) (ch : Nat → Int32) (ck : Nat → Int32) (h : Nat → Nat) (hd : Nat → Bool) (nl : Nat → Nat) (wi : Nat → Option Nat) (d : Nat) (o : Option Nat) (v : Int32) (b : Bool) (hn9 : n < 150) (hn : n ≤ 150) (hTd : ∀ k, dc k < 4) (hTg : ∀ k, ge k ≤ 150) (hTp : ∀ k j, k < n → pa k = some j → j < k) (hd4 : d < 4) (ho : ∀ j, o = some j → j < n) (hg1 : mkg ge o ≤ 150) (hf : ffd (fnd dc pa va dl d o v b) n = none) (sz : Nat) : Met l yX3_grow wsX3_grow ({ frames := 6, cells := 0, slots := 0, locals := 131 } : Room) (wrPc D ct [.ref (r 0), .ref (z 0), .int (nI d), .int (eP o), .int v, .int (bI b)] (wR ct r a u sa ++ wT ct a n dc pa va dl ge su ++ wS ct z h dp lt ch ck ++ wH ct h hd nl wi) sz) (wqI D (nI n) (wR ct r a u sa ++ wT ct a (n + 1) (va_up dc n d) (va_up pa n o) (va_up va n v) (va_up dl n b) (va_up ge n (mkg ge o)) (va_up su n (mksu ge su o v b)) ++ wS ct z h dp (lt + nI 1) (va_up ch ((va_up dc n d) n) (lt + nI 1)) ck ++ wH ct h (stm (va_up hd n true) (flS (va_up pa n o) (va_up ge n (mkg ge o)) (va_up hd n true) (n + 1) (n + 1)) (va_up ge n (mkg ge o)) dp (n + 1)) (flS (va_up pa n o) (va_up ge n (mkg ge o)) (va_up hd n true) (n + 1) (n + 1)) (fwS (va_up dc n d) (va_up dl n b) (va_up ge n (mkg ge o)) (va_up su n (mksu ge su o v b)) (ends (va_up hd n true) (flS (va_up pa n o) (va_up ge n (mkg ge o)) (va_up hd n true) (n + 1) (n + 1))) (n + 1))) (va_A (wR ct r a u sa ++ wT ct a n dc pa va dl ge su ++ wS ct z h dp lt ch ck ++ wH ct h hd nl wi) sz)) 0 0 (va_A (wR ct r a u sa ++ wT ct a n dc pa va dl ge su ++ wS ct z h dp lt ch ck ++ wH ct h hd nl wi) sz) := by
  refine Met.ofW (cc := cX3_grow) (maxL := 7) (ret := (some .int)) (by decide) rfl ?_
  intro p e s m args below meth c s₁ B hml hv
  obtain ⟨rfl, hsz, hP, hK, hD0⟩ := hv
  have hx := B.exec
  have hb := B.bytes
  have hr := B.returns
  have hts := atoms_spec (ws := wsX3_grow) B.pre
  have hown : s.vm.findClass RX3 = some m.cls := findClass_of_methodNamed B.named
  have hlocks := B.notSynchronized
  subst hsz
  have hD := hD0.self (sz := s.heap.size)
  generalize hAe : va_A (wR ct r a u sa ++ wT ct a n dc pa va dl ge su ++ wS ct z h dp lt ch ck ++ wH ct h hd nl wi) s.heap.size = A at hD ⊢
  have hA : ∀ q : Nat, s.heap.size ≤ q → A q := fun q h => by rw [← hAe]; exact Or.inr h
  have hS : va_S A s.heap s.heap [] := va_S.rf
  have hP : va_P D vwCl (wR ct r a u sa ++ wT ct a n dc pa va dl ge su ++ wS ct z h dp lt ch ck ++ wH ct h hd nl wi) s.heap := hP
  clear hAe hD0
  have hl := lv_entry ([.ref (r 0), .ref (z 0), .int (nI d), .int (eP o), .int v, .int (bI b)]) (n := 7) (Nat.le_of_ble_eq_true rfl)
  rw [lg_entry_eq]
  generalize (lg_sl ([.ref (r 0), .ref (z 0), .int (nI d), .int (eP o), .int v, .int (bI b)]) ++ List.replicate (7 - (lg_sl ([.ref (r 0), .ref (z 0), .int (nI d), .int (eP o), .int v, .int (bI b)])).length) Slot.unset).toArray = ls at hl ⊢
  have hl : lv_has ls 7 [(0, .ref (r 0)), (1, .ref (z 0)), (2, .int (nI d)), (3, .int (eP o)), (4, .int v), (5, .int (bI b))] := hl
  have hH0 : s.heap.size ≤ s.heap.size := Nat.le_refl _
  refine lv_aload_n hx hb dX3_grow_0 rfl (lv_at hl 0 rfl) ?_
  refine va_get (D := D) (ci := 3) (v := .ref (a 0)) (C := RX3) (T := TX3) (N := 3) hx hb hts (fun _ h => List.mem_cons_of_mem _ (List.mem_append_left _ (List.mem_append_left _ (List.mem_append_left _ (List.mem_append_right _ h))))) hown hK.1 hP 0 rfl rfl 0 (by decide) (hts (.fieldLink RX3 10 "RevisionStores" "tree" "LRevisionStores$Tree;") (List.mem_of_getElem? (i := 1) rfl)) (fun _ h9 => h9) rfl dX3_grow_1 ?_
  refine lv_iload_n hx hb dX3_grow_4 rfl (lv_at hl 2 rfl) ?_
  refine lv_iload_n hx hb dX3_grow_5 rfl (lv_at hl 3 rfl) ?_
  refine lv_iload hx hb dX3_grow_6 (lv_at hl 4 rfl) ?_
  refine lv_iload hx hb dX3_grow_8 (lv_at hl 5 rfl) ?_
  refine r_cV (As := [.int (nI d), .int (eP o), .int v, .int (bI b)]) (rest := []) ⟨hx, hb, hml, hown, hts⟩ (cX2_find_ok l D ct a n dc pa va dl ge su d o v b (by first | assumption | omega) (by first | assumption | omega) (by first | assumption | omega)) (cwV 4 hts gX3_grow_X2_find rfl rfl rfl (by decide +kernel) ⟨Nat.le_of_ble_eq_true rfl, Nat.le_of_ble_eq_true rfl⟩) hK (hP.sub (ws' := wT ct a n dc pa va dl ge su) [2, 3, 4, 5, 6, 7, 8] rfl) 0 2 rfl rfl rfl hl.1 rfl (Nat.le_of_ble_eq_true rfl) dX3_grow_10 ⟨Nat.le_of_ble_eq_true rfl, Nat.le_of_ble_eq_true rfl⟩ ?_
  refine lv_istore (lv' := [(6, .int (eP (ffd (fnd dc pa va dl d o v b) n))), (0, .ref (r 0)), (1, .ref (z 0)), (2, .int (nI d)), (3, .int (eP o)), (4, .int v), (5, .int (bI b))]) hx hb dX3_grow_13 hl (by decide) rfl (fun ls hl => ?_)
  refine lv_iload hx hb dX3_grow_15 (lv_at hl 0 rfl) ?_
  refine lv_iconst (v := -1) hx hb dX3_grow_17 (by decide) ?_
  refine r_icmp_neP hx hb (x := ffd (fnd dc pa va dl d o v b) n) (by intro j9 h9; rw [hf] at h9; cases h9) (tgt := 36) dX3_grow_18 (by decide) (fun j18 c18 => ?_) (fun c18 => ?_)
  · exact absurd c18 (by rw [hf]; exact fun h => by cases h)
  · have hl := lv_re (f := fun z9 => [(6, .int z9), (0, .ref (r 0)), (1, .ref (z 0)), (2, .int (nI d)), (3, .int (eP o)), (4, .int v), (5, .int (bI b))]) hl (show eP (ffd (fnd dc pa va dl d o v b) n) = eP none from congrArg eP c18)
    refine lv_aload_n hx hb dX3_grow_21 rfl (lv_at hl 1 rfl) ?_
    refine va_get (D := D) (ci := 3) (v := .ref (a 0)) (C := RX3) (T := TX3) (N := 3) hx hb hts (fun _ h => List.mem_cons_of_mem _ (List.mem_append_left _ (List.mem_append_left _ (List.mem_append_left _ (List.mem_append_right _ h))))) hown hK.1 hP 0 rfl rfl 0 (by decide) (hts (.fieldLink RX3 10 "RevisionStores" "tree" "LRevisionStores$Tree;") (List.mem_of_getElem? (i := 1) rfl)) (fun _ h9 => h9) rfl dX3_grow_22 ?_
    refine lv_iload_n hx hb dX3_grow_25 rfl (lv_at hl 3 rfl) ?_
    refine lv_iload_n hx hb dX3_grow_26 rfl (lv_at hl 4 rfl) ?_
    refine lv_iload hx hb dX3_grow_27 (lv_at hl 5 rfl) ?_
    refine lv_iload hx hb dX3_grow_29 (lv_at hl 6 rfl) ?_
    refine r_wVi (As := [.int (nI d), .int (eP o), .int v, .int (bI b)]) (rest := []) ⟨hx, hb, hml, hown, hts⟩ (cX2_make_ok l D ct a n dc pa va dl ge su d o v b (by first | assumption | omega) (by first | assumption | omega) (by first | assumption | omega) s.heap.size) (cwV 4 hts gX3_grow_X2_make rfl rfl rfl (by decide +kernel) ⟨Nat.le_of_ble_eq_true rfl, Nat.le_of_ble_eq_true rfl⟩) hK hP hD hS hA [2, 3, 4, 5, 6, 7, 8] rfl rfl rfl 0 2 rfl rfl rfl hl.1 rfl (Nat.le_of_ble_eq_true rfl) dX3_grow_31 ⟨Nat.le_of_ble_eq_true rfl, Nat.le_of_ble_eq_true rfl⟩ (fun H locs hP hD hS => ?_)
    have hP : va_P D vwCl (wR ct r a u sa ++ wT ct a (n + 1) (va_up dc n d) (va_up pa n o) (va_up va n v) (va_up dl n b) (va_up ge n (mkg ge o)) (va_up su n (mksu ge su o v b)) ++ wS ct z h dp lt ch ck ++ wH ct h hd nl wi) H := hP
    have hD : va_D A (wR ct r a u sa ++ wT ct a (n + 1) (va_up dc n d) (va_up pa n o) (va_up va n v) (va_up dl n b) (va_up ge n (mkg ge o)) (va_up su n (mksu ge su o v b)) ++ wS ct z h dp lt ch ck ++ wH ct h hd nl wi) := hD
    refine lv_istore (lv' := [(6, .int (nI n)), (0, .ref (r 0)), (1, .ref (z 0)), (2, .int (nI d)), (3, .int (eP o)), (4, .int v), (5, .int (bI b))]) hx hb dX3_grow_34 hl (by decide) rfl (fun ls hl => ?_)
    refine lv_aload_n hx hb dX3_grow_36 rfl (lv_at hl 2 rfl) ?_
    refine lv_aload_n hx hb dX3_grow_37 rfl (lv_at hl 1 rfl) ?_
    refine va_get (D := D) (ci := 3) (v := .ref (a 0)) (C := RX3) (T := TX3) (N := 3) hx hb hts (fun _ h => List.mem_cons_of_mem _ (List.mem_append_left _ (List.mem_append_left _ (List.mem_append_left _ (List.mem_append_right _ h))))) hown hK.1 hP 0 rfl rfl 0 (by decide) (hts (.fieldLink RX3 10 "RevisionStores" "tree" "LRevisionStores$Tree;") (List.mem_of_getElem? (i := 1) rfl)) (fun _ h9 => h9) rfl dX3_grow_38 ?_
    refine lv_iload hx hb dX3_grow_41 (lv_at hl 0 rfl) ?_
    refine r_wVv (As := [.ref (a 0), .int (nI n)]) (rest := []) ⟨hx, hb, hml, hown, hts⟩ (cX1_append_ok l D ct z dp lt ch ck h hd nl wi a (n + 1) (va_up dc n d) (va_up pa n o) (va_up va n v) (va_up dl n b) (va_up ge n (mkg ge o)) (va_up su n (mksu ge su o v b)) n (by first | assumption | omega) (up_Td hTd hd4) (up_Tg hTg hg1) (up_Tp hTp ho) (by first | assumption | omega) H.size) (cwV 2 hts gX3_grow_X1_append rfl rfl rfl (by decide +kernel) ⟨Nat.le_of_ble_eq_true rfl, Nat.le_of_ble_eq_true rfl⟩) hK hP hD hS hA [9, 10, 11, 12, 13, 14, 15, 2, 3, 4, 5, 6, 7, 8] rfl rfl rfl 0 1 rfl rfl rfl hl.1 rfl (Nat.le_of_ble_eq_true rfl) dX3_grow_43 ⟨Nat.le_of_ble_eq_true rfl, Nat.le_of_ble_eq_true rfl⟩ (fun H locs hP hD hS => ?_)
    have hP : va_P D vwCl (wR ct r a u sa ++ wT ct a (n + 1) (va_up dc n d) (va_up pa n o) (va_up va n v) (va_up dl n b) (va_up ge n (mkg ge o)) (va_up su n (mksu ge su o v b)) ++ wS ct z h dp (lt + nI 1) (va_up ch ((va_up dc n d) n) (lt + nI 1)) ck ++ wH ct h (stm (va_up hd n true) (flS (va_up pa n o) (va_up ge n (mkg ge o)) (va_up hd n true) (n + 1) (n + 1)) (va_up ge n (mkg ge o)) dp (n + 1)) (flS (va_up pa n o) (va_up ge n (mkg ge o)) (va_up hd n true) (n + 1) (n + 1)) (fwS (va_up dc n d) (va_up dl n b) (va_up ge n (mkg ge o)) (va_up su n (mksu ge su o v b)) (ends (va_up hd n true) (flS (va_up pa n o) (va_up ge n (mkg ge o)) (va_up hd n true) (n + 1) (n + 1))) (n + 1))) H := hP
    have hD : va_D A (wR ct r a u sa ++ wT ct a (n + 1) (va_up dc n d) (va_up pa n o) (va_up va n v) (va_up dl n b) (va_up ge n (mkg ge o)) (va_up su n (mksu ge su o v b)) ++ wS ct z h dp (lt + nI 1) (va_up ch ((va_up dc n d) n) (lt + nI 1)) ck ++ wH ct h (stm (va_up hd n true) (flS (va_up pa n o) (va_up ge n (mkg ge o)) (va_up hd n true) (n + 1) (n + 1)) (va_up ge n (mkg ge o)) dp (n + 1)) (flS (va_up pa n o) (va_up ge n (mkg ge o)) (va_up hd n true) (n + 1) (n + 1)) (fwS (va_up dc n d) (va_up dl n b) (va_up ge n (mkg ge o)) (va_up su n (mksu ge su o v b)) (ends (va_up hd n true) (flS (va_up pa n o) (va_up ge n (mkg ge o)) (va_up hd n true) (n + 1) (n + 1))) (n + 1))) := hD
    refine lv_iload hx hb dX3_grow_46 (lv_at hl 0 rfl) ?_
    have hP : va_P D vwCl (wR ct r a u sa ++ wT ct a (n + 1) (va_up dc n d) (va_up pa n o) (va_up va n v) (va_up dl n b) (va_up ge n (mkg ge o)) (va_up su n (mksu ge su o v b)) ++ wS ct z h dp (lt + nI 1) (va_up ch ((va_up dc n d) n) (lt + nI 1)) ck ++ wH ct h (stm (va_up hd n true) (flS (va_up pa n o) (va_up ge n (mkg ge o)) (va_up hd n true) (n + 1) (n + 1)) (va_up ge n (mkg ge o)) dp (n + 1)) (flS (va_up pa n o) (va_up ge n (mkg ge o)) (va_up hd n true) (n + 1) (n + 1)) (fwS (va_up dc n d) (va_up dl n b) (va_up ge n (mkg ge o)) (va_up su n (mksu ge su o v b)) (ends (va_up hd n true) (flS (va_up pa n o) (va_up ge n (mkg ge o)) (va_up hd n true) (n + 1) (n + 1))) (n + 1))) H := hP
    exact W.iret hx hb hr (fun t ht hW => ⟨⟨_, (), rfl, rfl, by show va_P D vwCl _ t.heap; rw [ht]; exact hP⟩, hS.F ht⟩) hS.2.2 dX3_grow_48
