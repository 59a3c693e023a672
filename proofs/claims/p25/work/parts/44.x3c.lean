set_option maxHeartbeats 8000000 in
set_option maxRecDepth 100000 in
theorem cX3_edit_found0 (l : Launch) (D : va_G) (ct : Nat → ClassId) (r : Nat → Nat) (u : Nat → Nat) (sa : Nat → Nat → Nat) (a : Nat → Nat) (n : Nat) (dc : Nat → Nat) (pa : Nat → Option Nat) (va : Nat → Int32) (dl : Nat → Bool) (ge : Nat → Nat) (su : Nat → Int32) (dp : Int32) (lt : Int32) (ch : Nat → Int32) (ck : Nat → Int32) (h : Nat → Nat) (hd : Nat → Bool) (nl : Nat → Nat) (wi : Nat → Option Nat) (i : Nat) (d : Nat) (v : Nat) (j : Nat) (hn9 : n < 150) (hn : n ≤ 150) (hTd : ∀ k, dc k < 4) (hTg : ∀ k, ge k ≤ 150) (hTp : ∀ k j, k < n → pa k = some j → j < k) (hNl : ∀ k, nl k ≤ 151) (hi : i < 3) (hd4 : d < 4) (hw : wi d = none) (hv : v ≤ 99) (hf : ffd (fnd dc pa va dl d none (nI v) false) n = some j) (hjn : j < n) (sz : Nat) : Met l yX3_edit wsX3_edit ({ frames := 7, cells := 0, slots := 0, locals := 157 } : Room) (wrPc D ct [.ref (r 0), .int (nI i), .int (nI d), .int (eP none), .int (nI v)] (wR ct r a u sa ++ wT ct a n dc pa va dl ge su ++ wS ct (sa i) h dp lt ch ck ++ wH ct h hd nl wi) sz) (wqI D (nI j) (wR ct r a u sa ++ wT ct a n dc pa va dl ge su ++ wS ct (sa i) h dp (lt + nI 1) (va_up ch (dc j) (lt + nI 1)) ck ++ wH ct h (stm (va_up hd j true) (flS pa ge (va_up hd j true) n n) ge dp n) (flS pa ge (va_up hd j true) n n) (fwS dc dl ge su (ends (va_up hd j true) (flS pa ge (va_up hd j true) n n)) n)) (va_A (wR ct r a u sa ++ wT ct a n dc pa va dl ge su ++ wS ct (sa i) h dp lt ch ck ++ wH ct h hd nl wi) sz)) 0 0 (va_A (wR ct r a u sa ++ wT ct a n dc pa va dl ge su ++ wS ct (sa i) h dp lt ch ck ++ wH ct h hd nl wi) sz) := by
  refine Met.ofW (cc := cX3_edit) (maxL := 6) (ret := (some .int)) (by decide) rfl ?_
  intro p e s m args below meth c s₁ B hml hv
  obtain ⟨rfl, hsz, hP, hK, hD0⟩ := hv
  have hx := B.exec
  have hb := B.bytes
  have hr := B.returns
  have hts := atoms_spec (ws := wsX3_edit) B.pre
  have hown : s.vm.findClass RX3 = some m.cls := findClass_of_methodNamed B.named
  have hlocks := B.notSynchronized
  subst hsz
  have hD := hD0.self (sz := s.heap.size)
  generalize hAe : va_A (wR ct r a u sa ++ wT ct a n dc pa va dl ge su ++ wS ct (sa i) h dp lt ch ck ++ wH ct h hd nl wi) s.heap.size = A at hD ⊢
  have hA : ∀ q : Nat, s.heap.size ≤ q → A q := fun q h => by rw [← hAe]; exact Or.inr h
  have hS : va_S A s.heap s.heap [] := va_S.rf
  have hP : va_P D vwCl (wR ct r a u sa ++ wT ct a n dc pa va dl ge su ++ wS ct (sa i) h dp lt ch ck ++ wH ct h hd nl wi) s.heap := hP
  clear hAe hD0
  have hl := lv_entry ([.ref (r 0), .int (nI i), .int (nI d), .int (eP none), .int (nI v)]) (n := 6) (Nat.le_of_ble_eq_true rfl)
  rw [lg_entry_eq]
  generalize (lg_sl ([.ref (r 0), .int (nI i), .int (nI d), .int (eP none), .int (nI v)]) ++ List.replicate (6 - (lg_sl ([.ref (r 0), .int (nI i), .int (nI d), .int (eP none), .int (nI v)])).length) Slot.unset).toArray = ls at hl ⊢
  have hl : lv_has ls 6 [(0, .ref (r 0)), (1, .int (nI i)), (2, .int (nI d)), (3, .int (eP none)), (4, .int (nI v))] := hl
  have hH0 : s.heap.size ≤ s.heap.size := Nat.le_refl _
  refine lv_aload_n hx hb dX3_edit_0 rfl (lv_at hl 0 rfl) ?_
  refine lv_iload_n hx hb dX3_edit_1 rfl (lv_at hl 1 rfl) ?_
  refine r_cVr (As := [.int (nI i)]) (rest := []) ⟨hx, hb, hml, hown, hts⟩ (cX3_storeAt_ok l D ct r u sa a i (by first | assumption | omega)) (cwV 1 hts gX3_edit_X3_storeAt rfl rfl rfl (by decide +kernel) ⟨Nat.le_of_ble_eq_true rfl, Nat.le_of_ble_eq_true rfl⟩) hK (hP.sub (ws' := wR ct r a u sa) [0, 1] rfl) 0 3 rfl rfl rfl hl.1 rfl (Nat.le_of_ble_eq_true rfl) dX3_edit_2 ⟨Nat.le_of_ble_eq_true rfl, Nat.le_of_ble_eq_true rfl⟩ ?_
  refine lv_astore (lv' := [(5, .ref ((sa i) 0)), (0, .ref (r 0)), (1, .int (nI i)), (2, .int (nI d)), (3, .int (eP none)), (4, .int (nI v))]) hx hb dX3_edit_5 hl (by decide) rfl (fun ls hl => ?_)
  refine lv_aload_n hx hb dX3_edit_7 rfl (lv_at hl 1 rfl) ?_
  refine lv_iload_n hx hb dX3_edit_8 rfl (lv_at hl 3 rfl) ?_
  refine r_cVv (As := [.int (nI d)]) (rest := []) ⟨hx, hb, hml, hown, hts⟩ (cX3_checkDocument_ok l D ct r u sa a d (by first | assumption | omega)) (cwV 1 hts gX3_edit_X3_checkDocument rfl rfl rfl (by decide +kernel) ⟨Nat.le_of_ble_eq_true rfl, Nat.le_of_ble_eq_true rfl⟩) hK (hP.sub (ws' := wR ct r a u sa) [0, 1] rfl) 0 3 rfl rfl rfl hl.1 rfl (Nat.le_of_ble_eq_true rfl) dX3_edit_9 ⟨Nat.le_of_ble_eq_true rfl, Nat.le_of_ble_eq_true rfl⟩ ?_
  refine lv_iload_n hx hb dX3_edit_12 rfl (lv_at hl 4 rfl) ?_
  refine lv_iconst (v := -1) hx hb dX3_edit_13 (by decide) ?_
  refine lv_icmp_eq (x := -1) (y := -1) (tgt := 22) hx hb dX3_edit_14 (by decide) (fun _ => ?_) (fun h => absurd rfl h)
  refine lv_iload hx hb dX3_edit_22 (lv_at hl 5 rfl) ?_
  refine lv_if_lt (x := nI v) (tgt := 34) hx hb dX3_edit_24 (by decide) (fun c24 => ?_) (fun c24 => ?_)
  · exact absurd c24 (nI_pos (by omega))
  · refine lv_iload hx hb dX3_edit_27 (lv_at hl 5 rfl) ?_
    refine lv_bipush (v := nI 99) hx hb dX3_edit_29 (by decide) ?_
    refine r_icmp_leN hx hb (x := v) (y := 99) (by first | omega | decide) (by first | omega | decide) (tgt := 44) dX3_edit_31 (by decide) (fun c31 => ?_) (fun c31 => ?_)
    · refine lv_iload_n hx hb dX3_edit_44 rfl (lv_at hl 4 rfl) ?_
      refine lv_iconst (v := -1) hx hb dX3_edit_45 (by decide) ?_
      refine lv_icmp_ne (x := -1) (y := -1) (tgt := 59) hx hb dX3_edit_46 (by decide) (fun h => absurd rfl h) (fun _ => ?_)
      refine lv_aload_n hx hb dX3_edit_49 rfl (lv_at hl 1 rfl) ?_
      refine lv_aload hx hb dX3_edit_50 (lv_at hl 0 rfl) ?_
      refine lv_iload_n hx hb dX3_edit_52 rfl (lv_at hl 3 rfl) ?_
      refine r_cVv (As := [.ref ((sa i) 0), .int (nI d)]) (rest := []) ⟨hx, hb, hml, hown, hts⟩ (cX3_checkNotBegun_ok l D ct r u sa a (sa i) dp lt ch ck h hd nl wi d (by first | assumption | omega) (by first | assumption | omega)) (cwV 2 hts gX3_edit_X3_checkNotBegun rfl rfl rfl (by decide +kernel) ⟨Nat.le_of_ble_eq_true rfl, Nat.le_of_ble_eq_true rfl⟩) hK (hP.sub (ws' := wR ct r a u sa ++ wS ct (sa i) h dp lt ch ck ++ wH ct h hd nl wi) [0, 1, 9, 10, 11, 12, 13, 14, 15] rfl) 0 3 rfl rfl rfl hl.1 rfl (Nat.le_of_ble_eq_true rfl) dX3_edit_53 ⟨Nat.le_of_ble_eq_true rfl, Nat.le_of_ble_eq_true rfl⟩ ?_
      refine lv_goto (tgt := 67) hx hb dX3_edit_56 (by decide) ?_
      refine lv_aload_n hx hb dX3_edit_67 rfl (lv_at hl 1 rfl) ?_
      refine r_cVv (As := []) (rest := []) ⟨hx, hb, hml, hown, hts⟩ (cX3_checkRoom_ok l D ct r u sa a n dc pa va dl ge su (by first | assumption | omega)) (cwV 0 hts gX3_edit_X3_checkRoom rfl rfl rfl (by decide +kernel) ⟨Nat.le_of_ble_eq_true rfl, Nat.le_of_ble_eq_true rfl⟩) hK (hP.sub (ws' := wR ct r a u sa ++ wT ct a n dc pa va dl ge su) [0, 1, 2, 3, 4, 5, 6, 7, 8] rfl) 0 3 rfl rfl rfl hl.1 rfl (Nat.le_of_ble_eq_true rfl) dX3_edit_68 ⟨Nat.le_of_ble_eq_true rfl, Nat.le_of_ble_eq_true rfl⟩ ?_
      refine lv_aload_n hx hb dX3_edit_71 rfl (lv_at hl 1 rfl) ?_
      refine lv_aload hx hb dX3_edit_72 (lv_at hl 0 rfl) ?_
      refine lv_iload_n hx hb dX3_edit_74 rfl (lv_at hl 3 rfl) ?_
      refine lv_iload_n hx hb dX3_edit_75 rfl (lv_at hl 4 rfl) ?_
      refine lv_iload hx hb dX3_edit_76 (lv_at hl 5 rfl) ?_
      refine lv_iconst (v := nI 0) hx hb dX3_edit_78 (by decide) ?_
      refine r_wVi (As := [.ref ((sa i) 0), .int (nI d), .int (eP none), .int (nI v), .int (bI false)]) (rest := []) ⟨hx, hb, hml, hown, hts⟩ (cX3_grow_found l D ct r u sa a n dc pa va dl ge su (sa i) dp lt ch ck h hd nl wi d none (nI v) false j (by first | assumption | omega) (by first | assumption | omega) (by first | assumption | omega) (by first | assumption | omega) (by first | assumption | omega) (by intro j9 h9; cases h9) (by first | assumption | omega) (by first | assumption | omega) s.heap.size) (cwV 5 hts gX3_edit_X3_grow rfl rfl rfl (by decide +kernel) ⟨Nat.le_of_ble_eq_true rfl, Nat.le_of_ble_eq_true rfl⟩) hK hP hD hS hA [0, 1, 2, 3, 4, 5, 6, 7, 8, 9, 10, 11, 12, 13, 14, 15] rfl rfl rfl 0 3 rfl rfl rfl hl.1 rfl (Nat.le_of_ble_eq_true rfl) dX3_edit_79 ⟨Nat.le_of_ble_eq_true rfl, Nat.le_of_ble_eq_true rfl⟩ (fun H locs hP hD hS => ?_)
      have hP : va_P D vwCl (wR ct r a u sa ++ wT ct a n dc pa va dl ge su ++ wS ct (sa i) h dp (lt + nI 1) (va_up ch (dc j) (lt + nI 1)) ck ++ wH ct h (stm (va_up hd j true) (flS pa ge (va_up hd j true) n n) ge dp n) (flS pa ge (va_up hd j true) n n) (fwS dc dl ge su (ends (va_up hd j true) (flS pa ge (va_up hd j true) n n)) n)) H := hP
      have hD : va_D A (wR ct r a u sa ++ wT ct a n dc pa va dl ge su ++ wS ct (sa i) h dp (lt + nI 1) (va_up ch (dc j) (lt + nI 1)) ck ++ wH ct h (stm (va_up hd j true) (flS pa ge (va_up hd j true) n n) ge dp n) (flS pa ge (va_up hd j true) n n) (fwS dc dl ge su (ends (va_up hd j true) (flS pa ge (va_up hd j true) n n)) n)) := hD
      exact W.iret hx hb hr (fun t ht hW => ⟨⟨_, (), rfl, rfl, by show va_P D vwCl _ t.heap; rw [ht]; exact hP⟩, hS.F ht⟩) hS.2.2 dX3_edit_82
    · omega
set_option maxHeartbeats 8000000 in
set_option maxRecDepth 100000 in
theorem cX3_edit_new0 (l : Launch) (D : va_G) (ct : Nat → ClassId) (r : Nat → Nat) (u : Nat → Nat) (sa : Nat → Nat → Nat) (a : Nat → Nat) (n : Nat) (dc : Nat → Nat) (pa : Nat → Option Nat) (va : Nat → Int32) (dl : Nat → Bool) (ge : Nat → Nat) (su : Nat → Int32) (dp : Int32) (lt : Int32) (ch : Nat → Int32) (ck : Nat → Int32) (h : Nat → Nat) (hd : Nat → Bool) (nl : Nat → Nat) (wi : Nat → Option Nat) (i : Nat) (d : Nat) (v : Nat) (hn9 : n < 150) (hn : n ≤ 150) (hTd : ∀ k, dc k < 4) (hTg : ∀ k, ge k ≤ 150) (hTp : ∀ k j, k < n → pa k = some j → j < k) (hNl : ∀ k, nl k ≤ 151) (hi : i < 3) (hd4 : d < 4) (hw : wi d = none) (hv : v ≤ 99) (hg1 : mkg ge none ≤ 150) (hf : ffd (fnd dc pa va dl d none (nI v) false) n = none) (sz : Nat) : Met l yX3_edit wsX3_edit ({ frames := 7, cells := 0, slots := 0, locals := 157 } : Room) (wrPc D ct [.ref (r 0), .int (nI i), .int (nI d), .int (eP none), .int (nI v)] (wR ct r a u sa ++ wT ct a n dc pa va dl ge su ++ wS ct (sa i) h dp lt ch ck ++ wH ct h hd nl wi) sz) (wqI D (nI n) (wR ct r a u sa ++ wT ct a (n + 1) (va_up dc n d) (va_up pa n none) (va_up va n (nI v)) (va_up dl n false) (va_up ge n (mkg ge none)) (va_up su n (mksu ge su none (nI v) false)) ++ wS ct (sa i) h dp (lt + nI 1) (va_up ch ((va_up dc n d) n) (lt + nI 1)) ck ++ wH ct h (stm (va_up hd n true) (flS (va_up pa n none) (va_up ge n (mkg ge none)) (va_up hd n true) (n + 1) (n + 1)) (va_up ge n (mkg ge none)) dp (n + 1)) (flS (va_up pa n none) (va_up ge n (mkg ge none)) (va_up hd n true) (n + 1) (n + 1)) (fwS (va_up dc n d) (va_up dl n false) (va_up ge n (mkg ge none)) (va_up su n (mksu ge su none (nI v) false)) (ends (va_up hd n true) (flS (va_up pa n none) (va_up ge n (mkg ge none)) (va_up hd n true) (n + 1) (n + 1))) (n + 1))) (va_A (wR ct r a u sa ++ wT ct a n dc pa va dl ge su ++ wS ct (sa i) h dp lt ch ck ++ wH ct h hd nl wi) sz)) 0 0 (va_A (wR ct r a u sa ++ wT ct a n dc pa va dl ge su ++ wS ct (sa i) h dp lt ch ck ++ wH ct h hd nl wi) sz) := by
  refine Met.ofW (cc := cX3_edit) (maxL := 6) (ret := (some .int)) (by decide) rfl ?_
  intro p e s m args below meth c s₁ B hml hv
  obtain ⟨rfl, hsz, hP, hK, hD0⟩ := hv
  have hx := B.exec
  have hb := B.bytes
  have hr := B.returns
  have hts := atoms_spec (ws := wsX3_edit) B.pre
  have hown : s.vm.findClass RX3 = some m.cls := findClass_of_methodNamed B.named
  have hlocks := B.notSynchronized
  subst hsz
  have hD := hD0.self (sz := s.heap.size)
  generalize hAe : va_A (wR ct r a u sa ++ wT ct a n dc pa va dl ge su ++ wS ct (sa i) h dp lt ch ck ++ wH ct h hd nl wi) s.heap.size = A at hD ⊢
  have hA : ∀ q : Nat, s.heap.size ≤ q → A q := fun q h => by rw [← hAe]; exact Or.inr h
  have hS : va_S A s.heap s.heap [] := va_S.rf
  have hP : va_P D vwCl (wR ct r a u sa ++ wT ct a n dc pa va dl ge su ++ wS ct (sa i) h dp lt ch ck ++ wH ct h hd nl wi) s.heap := hP
  clear hAe hD0
  have hl := lv_entry ([.ref (r 0), .int (nI i), .int (nI d), .int (eP none), .int (nI v)]) (n := 6) (Nat.le_of_ble_eq_true rfl)
  rw [lg_entry_eq]
  generalize (lg_sl ([.ref (r 0), .int (nI i), .int (nI d), .int (eP none), .int (nI v)]) ++ List.replicate (6 - (lg_sl ([.ref (r 0), .int (nI i), .int (nI d), .int (eP none), .int (nI v)])).length) Slot.unset).toArray = ls at hl ⊢
  have hl : lv_has ls 6 [(0, .ref (r 0)), (1, .int (nI i)), (2, .int (nI d)), (3, .int (eP none)), (4, .int (nI v))] := hl
  have hH0 : s.heap.size ≤ s.heap.size := Nat.le_refl _
  refine lv_aload_n hx hb dX3_edit_0 rfl (lv_at hl 0 rfl) ?_
  refine lv_iload_n hx hb dX3_edit_1 rfl (lv_at hl 1 rfl) ?_
  refine r_cVr (As := [.int (nI i)]) (rest := []) ⟨hx, hb, hml, hown, hts⟩ (cX3_storeAt_ok l D ct r u sa a i (by first | assumption | omega)) (cwV 1 hts gX3_edit_X3_storeAt rfl rfl rfl (by decide +kernel) ⟨Nat.le_of_ble_eq_true rfl, Nat.le_of_ble_eq_true rfl⟩) hK (hP.sub (ws' := wR ct r a u sa) [0, 1] rfl) 0 3 rfl rfl rfl hl.1 rfl (Nat.le_of_ble_eq_true rfl) dX3_edit_2 ⟨Nat.le_of_ble_eq_true rfl, Nat.le_of_ble_eq_true rfl⟩ ?_
  refine lv_astore (lv' := [(5, .ref ((sa i) 0)), (0, .ref (r 0)), (1, .int (nI i)), (2, .int (nI d)), (3, .int (eP none)), (4, .int (nI v))]) hx hb dX3_edit_5 hl (by decide) rfl (fun ls hl => ?_)
  refine lv_aload_n hx hb dX3_edit_7 rfl (lv_at hl 1 rfl) ?_
  refine lv_iload_n hx hb dX3_edit_8 rfl (lv_at hl 3 rfl) ?_
  refine r_cVv (As := [.int (nI d)]) (rest := []) ⟨hx, hb, hml, hown, hts⟩ (cX3_checkDocument_ok l D ct r u sa a d (by first | assumption | omega)) (cwV 1 hts gX3_edit_X3_checkDocument rfl rfl rfl (by decide +kernel) ⟨Nat.le_of_ble_eq_true rfl, Nat.le_of_ble_eq_true rfl⟩) hK (hP.sub (ws' := wR ct r a u sa) [0, 1] rfl) 0 3 rfl rfl rfl hl.1 rfl (Nat.le_of_ble_eq_true rfl) dX3_edit_9 ⟨Nat.le_of_ble_eq_true rfl, Nat.le_of_ble_eq_true rfl⟩ ?_
  refine lv_iload_n hx hb dX3_edit_12 rfl (lv_at hl 4 rfl) ?_
  refine lv_iconst (v := -1) hx hb dX3_edit_13 (by decide) ?_
  refine lv_icmp_eq (x := -1) (y := -1) (tgt := 22) hx hb dX3_edit_14 (by decide) (fun _ => ?_) (fun h => absurd rfl h)
  refine lv_iload hx hb dX3_edit_22 (lv_at hl 5 rfl) ?_
  refine lv_if_lt (x := nI v) (tgt := 34) hx hb dX3_edit_24 (by decide) (fun c24 => ?_) (fun c24 => ?_)
  · exact absurd c24 (nI_pos (by omega))
  · refine lv_iload hx hb dX3_edit_27 (lv_at hl 5 rfl) ?_
    refine lv_bipush (v := nI 99) hx hb dX3_edit_29 (by decide) ?_
    refine r_icmp_leN hx hb (x := v) (y := 99) (by first | omega | decide) (by first | omega | decide) (tgt := 44) dX3_edit_31 (by decide) (fun c31 => ?_) (fun c31 => ?_)
    · refine lv_iload_n hx hb dX3_edit_44 rfl (lv_at hl 4 rfl) ?_
      refine lv_iconst (v := -1) hx hb dX3_edit_45 (by decide) ?_
      refine lv_icmp_ne (x := -1) (y := -1) (tgt := 59) hx hb dX3_edit_46 (by decide) (fun h => absurd rfl h) (fun _ => ?_)
      refine lv_aload_n hx hb dX3_edit_49 rfl (lv_at hl 1 rfl) ?_
      refine lv_aload hx hb dX3_edit_50 (lv_at hl 0 rfl) ?_
      refine lv_iload_n hx hb dX3_edit_52 rfl (lv_at hl 3 rfl) ?_
      refine r_cVv (As := [.ref ((sa i) 0), .int (nI d)]) (rest := []) ⟨hx, hb, hml, hown, hts⟩ (cX3_checkNotBegun_ok l D ct r u sa a (sa i) dp lt ch ck h hd nl wi d (by first | assumption | omega) (by first | assumption | omega)) (cwV 2 hts gX3_edit_X3_checkNotBegun rfl rfl rfl (by decide +kernel) ⟨Nat.le_of_ble_eq_true rfl, Nat.le_of_ble_eq_true rfl⟩) hK (hP.sub (ws' := wR ct r a u sa ++ wS ct (sa i) h dp lt ch ck ++ wH ct h hd nl wi) [0, 1, 9, 10, 11, 12, 13, 14, 15] rfl) 0 3 rfl rfl rfl hl.1 rfl (Nat.le_of_ble_eq_true rfl) dX3_edit_53 ⟨Nat.le_of_ble_eq_true rfl, Nat.le_of_ble_eq_true rfl⟩ ?_
      refine lv_goto (tgt := 67) hx hb dX3_edit_56 (by decide) ?_
      refine lv_aload_n hx hb dX3_edit_67 rfl (lv_at hl 1 rfl) ?_
      refine r_cVv (As := []) (rest := []) ⟨hx, hb, hml, hown, hts⟩ (cX3_checkRoom_ok l D ct r u sa a n dc pa va dl ge su (by first | assumption | omega)) (cwV 0 hts gX3_edit_X3_checkRoom rfl rfl rfl (by decide +kernel) ⟨Nat.le_of_ble_eq_true rfl, Nat.le_of_ble_eq_true rfl⟩) hK (hP.sub (ws' := wR ct r a u sa ++ wT ct a n dc pa va dl ge su) [0, 1, 2, 3, 4, 5, 6, 7, 8] rfl) 0 3 rfl rfl rfl hl.1 rfl (Nat.le_of_ble_eq_true rfl) dX3_edit_68 ⟨Nat.le_of_ble_eq_true rfl, Nat.le_of_ble_eq_true rfl⟩ ?_
      refine lv_aload_n hx hb dX3_edit_71 rfl (lv_at hl 1 rfl) ?_
      refine lv_aload hx hb dX3_edit_72 (lv_at hl 0 rfl) ?_
      refine lv_iload_n hx hb dX3_edit_74 rfl (lv_at hl 3 rfl) ?_
      refine lv_iload_n hx hb dX3_edit_75 rfl (lv_at hl 4 rfl) ?_
      refine lv_iload hx hb dX3_edit_76 (lv_at hl 5 rfl) ?_
      refine lv_iconst (v := nI 0) hx hb dX3_edit_78 (by decide) ?_
      refine r_wVi (As := [.ref ((sa i) 0), .int (nI d), .int (eP none), .int (nI v), .int (bI false)]) (rest := []) ⟨hx, hb, hml, hown, hts⟩ (cX3_grow_new l D ct r u sa a n dc pa va dl ge su (sa i) dp lt ch ck h hd nl wi d none (nI v) false (by first | assumption | omega) (by first | assumption | omega) (by first | assumption | omega) (by first | assumption | omega) (by first | assumption | omega) (by first | assumption | omega) (by intro j9 h9; cases h9) (by first | assumption | omega) (by first | assumption | omega) s.heap.size) (cwV 5 hts gX3_edit_X3_grow rfl rfl rfl (by decide +kernel) ⟨Nat.le_of_ble_eq_true rfl, Nat.le_of_ble_eq_true rfl⟩) hK hP hD hS hA [0, 1, 2, 3, 4, 5, 6, 7, 8, 9, 10, 11, 12, 13, 14, 15] rfl rfl rfl 0 3 rfl rfl rfl hl.1 rfl (Nat.le_of_ble_eq_true rfl) dX3_edit_79 ⟨Nat.le_of_ble_eq_true rfl, Nat.le_of_ble_eq_true rfl⟩ (fun H locs hP hD hS => ?_)
      have hP : va_P D vwCl (wR ct r a u sa ++ wT ct a (n + 1) (va_up dc n d) (va_up pa n none) (va_up va n (nI v)) (va_up dl n false) (va_up ge n (mkg ge none)) (va_up su n (mksu ge su none (nI v) false)) ++ wS ct (sa i) h dp (lt + nI 1) (va_up ch ((va_up dc n d) n) (lt + nI 1)) ck ++ wH ct h (stm (va_up hd n true) (flS (va_up pa n none) (va_up ge n (mkg ge none)) (va_up hd n true) (n + 1) (n + 1)) (va_up ge n (mkg ge none)) dp (n + 1)) (flS (va_up pa n none) (va_up ge n (mkg ge none)) (va_up hd n true) (n + 1) (n + 1)) (fwS (va_up dc n d) (va_up dl n false) (va_up ge n (mkg ge none)) (va_up su n (mksu ge su none (nI v) false)) (ends (va_up hd n true) (flS (va_up pa n none) (va_up ge n (mkg ge none)) (va_up hd n true) (n + 1) (n + 1))) (n + 1))) H := hP
      have hD : va_D A (wR ct r a u sa ++ wT ct a (n + 1) (va_up dc n d) (va_up pa n none) (va_up va n (nI v)) (va_up dl n false) (va_up ge n (mkg ge none)) (va_up su n (mksu ge su none (nI v) false)) ++ wS ct (sa i) h dp (lt + nI 1) (va_up ch ((va_up dc n d) n) (lt + nI 1)) ck ++ wH ct h (stm (va_up hd n true) (flS (va_up pa n none) (va_up ge n (mkg ge none)) (va_up hd n true) (n + 1) (n + 1)) (va_up ge n (mkg ge none)) dp (n + 1)) (flS (va_up pa n none) (va_up ge n (mkg ge none)) (va_up hd n true) (n + 1) (n + 1)) (fwS (va_up dc n d) (va_up dl n false) (va_up ge n (mkg ge none)) (va_up su n (mksu ge su none (nI v) false)) (ends (va_up hd n true) (flS (va_up pa n none) (va_up ge n (mkg ge none)) (va_up hd n true) (n + 1) (n + 1))) (n + 1))) := hD
      exact W.iret hx hb hr (fun t ht hW => ⟨⟨_, (), rfl, rfl, by show va_P D vwCl _ t.heap; rw [ht]; exact hP⟩, hS.F ht⟩) hS.2.2 dX3_edit_82
    · omega
set_option maxHeartbeats 8000000 in
set_option maxRecDepth 100000 in
theorem cX3_edit_found1 (l : Launch) (D : va_G) (ct : Nat → ClassId) (r : Nat → Nat) (u : Nat → Nat) (sa : Nat → Nat → Nat) (a : Nat → Nat) (n : Nat) (dc : Nat → Nat) (pa : Nat → Option Nat) (va : Nat → Int32) (dl : Nat → Bool) (ge : Nat → Nat) (su : Nat → Int32) (dp : Int32) (lt : Int32) (ch : Nat → Int32) (ck : Nat → Int32) (h : Nat → Nat) (hd : Nat → Bool) (nl : Nat → Nat) (wi : Nat → Option Nat) (i : Nat) (d : Nat) (k : Nat) (v : Nat) (j : Nat) (hn9 : n < 150) (hn : n ≤ 150) (hTd : ∀ k, dc k < 4) (hTg : ∀ k, ge k ≤ 150) (hTp : ∀ k j, k < n → pa k = some j → j < k) (hNl : ∀ k, nl k ≤ 151) (hi : i < 3) (hd4 : d < 4) (hk : k < n) (hdk : dc k = d) (hlf : ends hd nl k = true) (hv : v ≤ 99) (hf : ffd (fnd dc pa va dl d (some k) (nI v) false) n = some j) (hjn : j < n) (sz : Nat) : Met l yX3_edit wsX3_edit ({ frames := 7, cells := 0, slots := 0, locals := 157 } : Room) (wrPc D ct [.ref (r 0), .int (nI i), .int (nI d), .int (nI k), .int (nI v)] (wR ct r a u sa ++ wT ct a n dc pa va dl ge su ++ wS ct (sa i) h dp lt ch ck ++ wH ct h hd nl wi) sz) (wqI D (nI j) (wR ct r a u sa ++ wT ct a n dc pa va dl ge su ++ wS ct (sa i) h dp (lt + nI 1) (va_up ch (dc j) (lt + nI 1)) ck ++ wH ct h (stm (va_up hd j true) (flS pa ge (va_up hd j true) n n) ge dp n) (flS pa ge (va_up hd j true) n n) (fwS dc dl ge su (ends (va_up hd j true) (flS pa ge (va_up hd j true) n n)) n)) (va_A (wR ct r a u sa ++ wT ct a n dc pa va dl ge su ++ wS ct (sa i) h dp lt ch ck ++ wH ct h hd nl wi) sz)) 0 0 (va_A (wR ct r a u sa ++ wT ct a n dc pa va dl ge su ++ wS ct (sa i) h dp lt ch ck ++ wH ct h hd nl wi) sz) := by
  refine Met.ofW (cc := cX3_edit) (maxL := 6) (ret := (some .int)) (by decide) rfl ?_
  intro p e s m args below meth c s₁ B hml hv
  obtain ⟨rfl, hsz, hP, hK, hD0⟩ := hv
  have hx := B.exec
  have hb := B.bytes
  have hr := B.returns
  have hts := atoms_spec (ws := wsX3_edit) B.pre
  have hown : s.vm.findClass RX3 = some m.cls := findClass_of_methodNamed B.named
  have hlocks := B.notSynchronized
  subst hsz
  have hD := hD0.self (sz := s.heap.size)
  generalize hAe : va_A (wR ct r a u sa ++ wT ct a n dc pa va dl ge su ++ wS ct (sa i) h dp lt ch ck ++ wH ct h hd nl wi) s.heap.size = A at hD ⊢
  have hA : ∀ q : Nat, s.heap.size ≤ q → A q := fun q h => by rw [← hAe]; exact Or.inr h
  have hS : va_S A s.heap s.heap [] := va_S.rf
  have hP : va_P D vwCl (wR ct r a u sa ++ wT ct a n dc pa va dl ge su ++ wS ct (sa i) h dp lt ch ck ++ wH ct h hd nl wi) s.heap := hP
  clear hAe hD0
  have hl := lv_entry ([.ref (r 0), .int (nI i), .int (nI d), .int (nI k), .int (nI v)]) (n := 6) (Nat.le_of_ble_eq_true rfl)
  rw [lg_entry_eq]
  generalize (lg_sl ([.ref (r 0), .int (nI i), .int (nI d), .int (nI k), .int (nI v)]) ++ List.replicate (6 - (lg_sl ([.ref (r 0), .int (nI i), .int (nI d), .int (nI k), .int (nI v)])).length) Slot.unset).toArray = ls at hl ⊢
  have hl : lv_has ls 6 [(0, .ref (r 0)), (1, .int (nI i)), (2, .int (nI d)), (3, .int (nI k)), (4, .int (nI v))] := hl
  have hH0 : s.heap.size ≤ s.heap.size := Nat.le_refl _
  refine lv_aload_n hx hb dX3_edit_0 rfl (lv_at hl 0 rfl) ?_
  refine lv_iload_n hx hb dX3_edit_1 rfl (lv_at hl 1 rfl) ?_
  refine r_cVr (As := [.int (nI i)]) (rest := []) ⟨hx, hb, hml, hown, hts⟩ (cX3_storeAt_ok l D ct r u sa a i (by first | assumption | omega)) (cwV 1 hts gX3_edit_X3_storeAt rfl rfl rfl (by decide +kernel) ⟨Nat.le_of_ble_eq_true rfl, Nat.le_of_ble_eq_true rfl⟩) hK (hP.sub (ws' := wR ct r a u sa) [0, 1] rfl) 0 3 rfl rfl rfl hl.1 rfl (Nat.le_of_ble_eq_true rfl) dX3_edit_2 ⟨Nat.le_of_ble_eq_true rfl, Nat.le_of_ble_eq_true rfl⟩ ?_
  refine lv_astore (lv' := [(5, .ref ((sa i) 0)), (0, .ref (r 0)), (1, .int (nI i)), (2, .int (nI d)), (3, .int (nI k)), (4, .int (nI v))]) hx hb dX3_edit_5 hl (by decide) rfl (fun ls hl => ?_)
  refine lv_aload_n hx hb dX3_edit_7 rfl (lv_at hl 1 rfl) ?_
  refine lv_iload_n hx hb dX3_edit_8 rfl (lv_at hl 3 rfl) ?_
  refine r_cVv (As := [.int (nI d)]) (rest := []) ⟨hx, hb, hml, hown, hts⟩ (cX3_checkDocument_ok l D ct r u sa a d (by first | assumption | omega)) (cwV 1 hts gX3_edit_X3_checkDocument rfl rfl rfl (by decide +kernel) ⟨Nat.le_of_ble_eq_true rfl, Nat.le_of_ble_eq_true rfl⟩) hK (hP.sub (ws' := wR ct r a u sa) [0, 1] rfl) 0 3 rfl rfl rfl hl.1 rfl (Nat.le_of_ble_eq_true rfl) dX3_edit_9 ⟨Nat.le_of_ble_eq_true rfl, Nat.le_of_ble_eq_true rfl⟩ ?_
  refine lv_iload_n hx hb dX3_edit_12 rfl (lv_at hl 4 rfl) ?_
  refine lv_iconst (v := -1) hx hb dX3_edit_13 (by decide) ?_
  refine r_icmp_eqN1 hx hb (x := k) (by first | omega | decide) (tgt := 22) dX3_edit_14 (by decide) ?_
  refine lv_aload_n hx hb dX3_edit_17 rfl (lv_at hl 1 rfl) ?_
  refine lv_iload_n hx hb dX3_edit_18 rfl (lv_at hl 4 rfl) ?_
  refine r_cVv (As := [.int (nI k)]) (rest := []) ⟨hx, hb, hml, hown, hts⟩ (cX3_checkRevision_ok l D ct r u sa a n dc pa va dl ge su k (by first | assumption | omega) (by first | assumption | omega)) (cwV 1 hts gX3_edit_X3_checkRevision rfl rfl rfl (by decide +kernel) ⟨Nat.le_of_ble_eq_true rfl, Nat.le_of_ble_eq_true rfl⟩) hK (hP.sub (ws' := wR ct r a u sa ++ wT ct a n dc pa va dl ge su) [0, 1, 2, 3, 4, 5, 6, 7, 8] rfl) 0 3 rfl rfl rfl hl.1 rfl (Nat.le_of_ble_eq_true rfl) dX3_edit_19 ⟨Nat.le_of_ble_eq_true rfl, Nat.le_of_ble_eq_true rfl⟩ ?_
  refine lv_iload hx hb dX3_edit_22 (lv_at hl 5 rfl) ?_
  refine lv_if_lt (x := nI v) (tgt := 34) hx hb dX3_edit_24 (by decide) (fun c24 => ?_) (fun c24 => ?_)
  · exact absurd c24 (nI_pos (by omega))
  · refine lv_iload hx hb dX3_edit_27 (lv_at hl 5 rfl) ?_
    refine lv_bipush (v := nI 99) hx hb dX3_edit_29 (by decide) ?_
    refine r_icmp_leN hx hb (x := v) (y := 99) (by first | omega | decide) (by first | omega | decide) (tgt := 44) dX3_edit_31 (by decide) (fun c31 => ?_) (fun c31 => ?_)
    · refine lv_iload_n hx hb dX3_edit_44 rfl (lv_at hl 4 rfl) ?_
      refine lv_iconst (v := -1) hx hb dX3_edit_45 (by decide) ?_
      refine r_icmp_neN1 hx hb (x := k) (by first | omega | decide) (tgt := 59) dX3_edit_46 (by decide) ?_
      refine lv_aload_n hx hb dX3_edit_59 rfl (lv_at hl 1 rfl) ?_
      refine lv_aload hx hb dX3_edit_60 (lv_at hl 0 rfl) ?_
      refine lv_iload_n hx hb dX3_edit_62 rfl (lv_at hl 3 rfl) ?_
      refine lv_iload_n hx hb dX3_edit_63 rfl (lv_at hl 4 rfl) ?_
      refine r_cVv (As := [.ref ((sa i) 0), .int (nI d), .int (nI k)]) (rest := []) ⟨hx, hb, hml, hown, hts⟩ (cX3_checkLeaf_ok l D ct r u sa a n dc pa va dl ge su (sa i) dp lt ch ck h hd nl wi d k (by first | assumption | omega) (by first | assumption | omega) (by first | assumption | omega) (by first | assumption | omega) (by first | assumption | omega) (by first | assumption | omega) (by first | assumption | omega)) (cwV 3 hts gX3_edit_X3_checkLeaf rfl rfl rfl (by decide +kernel) ⟨Nat.le_of_ble_eq_true rfl, Nat.le_of_ble_eq_true rfl⟩) hK (hP.sub (ws' := wR ct r a u sa ++ wT ct a n dc pa va dl ge su ++ wS ct (sa i) h dp lt ch ck ++ wH ct h hd nl wi) [0, 1, 2, 3, 4, 5, 6, 7, 8, 9, 10, 11, 12, 13, 14, 15] rfl) 0 3 rfl rfl rfl hl.1 rfl (Nat.le_of_ble_eq_true rfl) dX3_edit_64 ⟨Nat.le_of_ble_eq_true rfl, Nat.le_of_ble_eq_true rfl⟩ ?_
      refine lv_aload_n hx hb dX3_edit_67 rfl (lv_at hl 1 rfl) ?_
      refine r_cVv (As := []) (rest := []) ⟨hx, hb, hml, hown, hts⟩ (cX3_checkRoom_ok l D ct r u sa a n dc pa va dl ge su (by first | assumption | omega)) (cwV 0 hts gX3_edit_X3_checkRoom rfl rfl rfl (by decide +kernel) ⟨Nat.le_of_ble_eq_true rfl, Nat.le_of_ble_eq_true rfl⟩) hK (hP.sub (ws' := wR ct r a u sa ++ wT ct a n dc pa va dl ge su) [0, 1, 2, 3, 4, 5, 6, 7, 8] rfl) 0 3 rfl rfl rfl hl.1 rfl (Nat.le_of_ble_eq_true rfl) dX3_edit_68 ⟨Nat.le_of_ble_eq_true rfl, Nat.le_of_ble_eq_true rfl⟩ ?_
      refine lv_aload_n hx hb dX3_edit_71 rfl (lv_at hl 1 rfl) ?_
      refine lv_aload hx hb dX3_edit_72 (lv_at hl 0 rfl) ?_
      refine lv_iload_n hx hb dX3_edit_74 rfl (lv_at hl 3 rfl) ?_
      refine lv_iload_n hx hb dX3_edit_75 rfl (lv_at hl 4 rfl) ?_
      refine lv_iload hx hb dX3_edit_76 (lv_at hl 5 rfl) ?_
      refine lv_iconst (v := nI 0) hx hb dX3_edit_78 (by decide) ?_
      refine r_wVi (As := [.ref ((sa i) 0), .int (nI d), .int (eP (some k)), .int (nI v), .int (bI false)]) (rest := []) ⟨hx, hb, hml, hown, hts⟩ (cX3_grow_found l D ct r u sa a n dc pa va dl ge su (sa i) dp lt ch ck h hd nl wi d (some k) (nI v) false j (by first | assumption | omega) (by first | assumption | omega) (by first | assumption | omega) (by first | assumption | omega) (by first | assumption | omega) (by intro j9 h9; cases h9; exact hk) (by first | assumption | omega) (by first | assumption | omega) s.heap.size) (cwV 5 hts gX3_edit_X3_grow rfl rfl rfl (by decide +kernel) ⟨Nat.le_of_ble_eq_true rfl, Nat.le_of_ble_eq_true rfl⟩) hK hP hD hS hA [0, 1, 2, 3, 4, 5, 6, 7, 8, 9, 10, 11, 12, 13, 14, 15] rfl rfl rfl 0 3 rfl rfl rfl hl.1 rfl (Nat.le_of_ble_eq_true rfl) dX3_edit_79 ⟨Nat.le_of_ble_eq_true rfl, Nat.le_of_ble_eq_true rfl⟩ (fun H locs hP hD hS => ?_)
      have hP : va_P D vwCl (wR ct r a u sa ++ wT ct a n dc pa va dl ge su ++ wS ct (sa i) h dp (lt + nI 1) (va_up ch (dc j) (lt + nI 1)) ck ++ wH ct h (stm (va_up hd j true) (flS pa ge (va_up hd j true) n n) ge dp n) (flS pa ge (va_up hd j true) n n) (fwS dc dl ge su (ends (va_up hd j true) (flS pa ge (va_up hd j true) n n)) n)) H := hP
      have hD : va_D A (wR ct r a u sa ++ wT ct a n dc pa va dl ge su ++ wS ct (sa i) h dp (lt + nI 1) (va_up ch (dc j) (lt + nI 1)) ck ++ wH ct h (stm (va_up hd j true) (flS pa ge (va_up hd j true) n n) ge dp n) (flS pa ge (va_up hd j true) n n) (fwS dc dl ge su (ends (va_up hd j true) (flS pa ge (va_up hd j true) n n)) n)) := hD
      exact W.iret hx hb hr (fun t ht hW => ⟨⟨_, (), rfl, rfl, by show va_P D vwCl _ t.heap; rw [ht]; exact hP⟩, hS.F ht⟩) hS.2.2 dX3_edit_82
    · omega
set_option maxHeartbeats 8000000 in
set_option maxRecDepth 100000 in
theorem cX3_edit_new1 (l : Launch) (D : va_G) (ct : Nat → ClassId) (r : Nat → Nat) (u : Nat → Nat) (sa : Nat → Nat → Nat) (a : Nat → Nat) (n : Nat) (dc : Nat → Nat) (pa : Nat → Option Nat) (va : Nat → Int32) (dl : Nat → Bool) (ge : Nat → Nat) (su : Nat → Int32) (dp : Int32) (lt : Int32) (ch : Nat → Int32) (ck : Nat → Int32) (h : Nat → Nat) (hd : Nat → Bool) (nl : Nat → Nat) (wi : Nat → Option Nat) (i : Nat) (d : Nat) (k : Nat) (v : Nat) (hn9 : n < 150) (hn : n ≤ 150) (hTd : ∀ k, dc k < 4) (hTg : ∀ k, ge k ≤ 150) (hTp : ∀ k j, k < n → pa k = some j → j < k) (hNl : ∀ k, nl k ≤ 151) (hi : i < 3) (hd4 : d < 4) (hk : k < n) (hdk : dc k = d) (hlf : ends hd nl k = true) (hv : v ≤ 99) (hg1 : mkg ge (some k) ≤ 150) (hf : ffd (fnd dc pa va dl d (some k) (nI v) false) n = none) (sz : Nat) : Met l yX3_edit wsX3_edit ({ frames := 7, cells := 0, slots := 0, locals := 157 } : Room) (wrPc D ct [.ref (r 0), .int (nI i), .int (nI d), .int (nI k), .int (nI v)] (wR ct r a u sa ++ wT ct a n dc pa va dl ge su ++ wS ct (sa i) h dp lt ch ck ++ wH ct h hd nl wi) sz) (wqI D (nI n) (wR ct r a u sa ++ wT ct a (n + 1) (va_up dc n d) (va_up pa n (some k)) (va_up va n (nI v)) (va_up dl n false) (va_up ge n (mkg ge (some k))) (va_up su n (mksu ge su (some k) (nI v) false)) ++ wS ct (sa i) h dp (lt + nI 1) (va_up ch ((va_up dc n d) n) (lt + nI 1)) ck ++ wH ct h (stm (va_up hd n true) (flS (va_up pa n (some k)) (va_up ge n (mkg ge (some k))) (va_up hd n true) (n + 1) (n + 1)) (va_up ge n (mkg ge (some k))) dp (n + 1)) (flS (va_up pa n (some k)) (va_up ge n (mkg ge (some k))) (va_up hd n true) (n + 1) (n + 1)) (fwS (va_up dc n d) (va_up dl n false) (va_up ge n (mkg ge (some k))) (va_up su n (mksu ge su (some k) (nI v) false)) (ends (va_up hd n true) (flS (va_up pa n (some k)) (va_up ge n (mkg ge (some k))) (va_up hd n true) (n + 1) (n + 1))) (n + 1))) (va_A (wR ct r a u sa ++ wT ct a n dc pa va dl ge su ++ wS ct (sa i) h dp lt ch ck ++ wH ct h hd nl wi) sz)) 0 0 (va_A (wR ct r a u sa ++ wT ct a n dc pa va dl ge su ++ wS ct (sa i) h dp lt ch ck ++ wH ct h hd nl wi) sz) := by
  refine Met.ofW (cc := cX3_edit) (maxL := 6) (ret := (some .int)) (by decide) rfl ?_
  intro p e s m args below meth c s₁ B hml hv
  obtain ⟨rfl, hsz, hP, hK, hD0⟩ := hv
  have hx := B.exec
  have hb := B.bytes
  have hr := B.returns
  have hts := atoms_spec (ws := wsX3_edit) B.pre
  have hown : s.vm.findClass RX3 = some m.cls := findClass_of_methodNamed B.named
  have hlocks := B.notSynchronized
  subst hsz
  have hD := hD0.self (sz := s.heap.size)
  generalize hAe : va_A (wR ct r a u sa ++ wT ct a n dc pa va dl ge su ++ wS ct (sa i) h dp lt ch ck ++ wH ct h hd nl wi) s.heap.size = A at hD ⊢
  have hA : ∀ q : Nat, s.heap.size ≤ q → A q := fun q h => by rw [← hAe]; exact Or.inr h
  have hS : va_S A s.heap s.heap [] := va_S.rf
  have hP : va_P D vwCl (wR ct r a u sa ++ wT ct a n dc pa va dl ge su ++ wS ct (sa i) h dp lt ch ck ++ wH ct h hd nl wi) s.heap := hP
  clear hAe hD0
  have hl := lv_entry ([.ref (r 0), .int (nI i), .int (nI d), .int (nI k), .int (nI v)]) (n := 6) (Nat.le_of_ble_eq_true rfl)
  rw [lg_entry_eq]
  generalize (lg_sl ([.ref (r 0), .int (nI i), .int (nI d), .int (nI k), .int (nI v)]) ++ List.replicate (6 - (lg_sl ([.ref (r 0), .int (nI i), .int (nI d), .int (nI k), .int (nI v)])).length) Slot.unset).toArray = ls at hl ⊢
  have hl : lv_has ls 6 [(0, .ref (r 0)), (1, .int (nI i)), (2, .int (nI d)), (3, .int (nI k)), (4, .int (nI v))] := hl
  have hH0 : s.heap.size ≤ s.heap.size := Nat.le_refl _
  refine lv_aload_n hx hb dX3_edit_0 rfl (lv_at hl 0 rfl) ?_
  refine lv_iload_n hx hb dX3_edit_1 rfl (lv_at hl 1 rfl) ?_
  refine r_cVr (As := [.int (nI i)]) (rest := []) ⟨hx, hb, hml, hown, hts⟩ (cX3_storeAt_ok l D ct r u sa a i (by first | assumption | omega)) (cwV 1 hts gX3_edit_X3_storeAt rfl rfl rfl (by decide +kernel) ⟨Nat.le_of_ble_eq_true rfl, Nat.le_of_ble_eq_true rfl⟩) hK (hP.sub (ws' := wR ct r a u sa) [0, 1] rfl) 0 3 rfl rfl rfl hl.1 rfl (Nat.le_of_ble_eq_true rfl) dX3_edit_2 ⟨Nat.le_of_ble_eq_true rfl, Nat.le_of_ble_eq_true rfl⟩ ?_
  refine lv_astore (lv' := [(5, .ref ((sa i) 0)), (0, .ref (r 0)), (1, .int (nI i)), (2, .int (nI d)), (3, .int (nI k)), (4, .int (nI v))]) hx hb dX3_edit_5 hl (by decide) rfl (fun ls hl => ?_)
  refine lv_aload_n hx hb dX3_edit_7 rfl (lv_at hl 1 rfl) ?_
  refine lv_iload_n hx hb dX3_edit_8 rfl (lv_at hl 3 rfl) ?_
  refine r_cVv (As := [.int (nI d)]) (rest := []) ⟨hx, hb, hml, hown, hts⟩ (cX3_checkDocument_ok l D ct r u sa a d (by first | assumption | omega)) (cwV 1 hts gX3_edit_X3_checkDocument rfl rfl rfl (by decide +kernel) ⟨Nat.le_of_ble_eq_true rfl, Nat.le_of_ble_eq_true rfl⟩) hK (hP.sub (ws' := wR ct r a u sa) [0, 1] rfl) 0 3 rfl rfl rfl hl.1 rfl (Nat.le_of_ble_eq_true rfl) dX3_edit_9 ⟨Nat.le_of_ble_eq_true rfl, Nat.le_of_ble_eq_true rfl⟩ ?_
  refine lv_iload_n hx hb dX3_edit_12 rfl (lv_at hl 4 rfl) ?_
  refine lv_iconst (v := -1) hx hb dX3_edit_13 (by decide) ?_
  refine r_icmp_eqN1 hx hb (x := k) (by first | omega | decide) (tgt := 22) dX3_edit_14 (by decide) ?_
  refine lv_aload_n hx hb dX3_edit_17 rfl (lv_at hl 1 rfl) ?_
  refine lv_iload_n hx hb dX3_edit_18 rfl (lv_at hl 4 rfl) ?_
  refine r_cVv (As := [.int (nI k)]) (rest := []) ⟨hx, hb, hml, hown, hts⟩ (cX3_checkRevision_ok l D ct r u sa a n dc pa va dl ge su k (by first | assumption | omega) (by first | assumption | omega)) (cwV 1 hts gX3_edit_X3_checkRevision rfl rfl rfl (by decide +kernel) ⟨Nat.le_of_ble_eq_true rfl, Nat.le_of_ble_eq_true rfl⟩) hK (hP.sub (ws' := wR ct r a u sa ++ wT ct a n dc pa va dl ge su) [0, 1, 2, 3, 4, 5, 6, 7, 8] rfl) 0 3 rfl rfl rfl hl.1 rfl (Nat.le_of_ble_eq_true rfl) dX3_edit_19 ⟨Nat.le_of_ble_eq_true rfl, Nat.le_of_ble_eq_true rfl⟩ ?_
  refine lv_iload hx hb dX3_edit_22 (lv_at hl 5 rfl) ?_
  refine lv_if_lt (x := nI v) (tgt := 34) hx hb dX3_edit_24 (by decide) (fun c24 => ?_) (fun c24 => ?_)
  · exact absurd c24 (nI_pos (by omega))
  · refine lv_iload hx hb dX3_edit_27 (lv_at hl 5 rfl) ?_
    refine lv_bipush (v := nI 99) hx hb dX3_edit_29 (by decide) ?_
    refine r_icmp_leN hx hb (x := v) (y := 99) (by first | omega | decide) (by first | omega | decide) (tgt := 44) dX3_edit_31 (by decide) (fun c31 => ?_) (fun c31 => ?_)
    · refine lv_iload_n hx hb dX3_edit_44 rfl (lv_at hl 4 rfl) ?_
      refine lv_iconst (v := -1) hx hb dX3_edit_45 (by decide) ?_
      refine r_icmp_neN1 hx hb (x := k) (by first | omega | decide) (tgt := 59) dX3_edit_46 (by decide) ?_
      refine lv_aload_n hx hb dX3_edit_59 rfl (lv_at hl 1 rfl) ?_
      refine lv_aload hx hb dX3_edit_60 (lv_at hl 0 rfl) ?_
      refine lv_iload_n hx hb dX3_edit_62 rfl (lv_at hl 3 rfl) ?_
      refine lv_iload_n hx hb dX3_edit_63 rfl (lv_at hl 4 rfl) ?_
      refine r_cVv (As := [.ref ((sa i) 0), .int (nI d), .int (nI k)]) (rest := []) ⟨hx, hb, hml, hown, hts⟩ (cX3_checkLeaf_ok l D ct r u sa a n dc pa va dl ge su (sa i) dp lt ch ck h hd nl wi d k (by first | assumption | omega) (by first | assumption | omega) (by first | assumption | omega) (by first | assumption | omega) (by first | assumption | omega) (by first | assumption | omega) (by first | assumption | omega)) (cwV 3 hts gX3_edit_X3_checkLeaf rfl rfl rfl (by decide +kernel) ⟨Nat.le_of_ble_eq_true rfl, Nat.le_of_ble_eq_true rfl⟩) hK (hP.sub (ws' := wR ct r a u sa ++ wT ct a n dc pa va dl ge su ++ wS ct (sa i) h dp lt ch ck ++ wH ct h hd nl wi) [0, 1, 2, 3, 4, 5, 6, 7, 8, 9, 10, 11, 12, 13, 14, 15] rfl) 0 3 rfl rfl rfl hl.1 rfl (Nat.le_of_ble_eq_true rfl) dX3_edit_64 ⟨Nat.le_of_ble_eq_true rfl, Nat.le_of_ble_eq_true rfl⟩ ?_
      refine lv_aload_n hx hb dX3_edit_67 rfl (lv_at hl 1 rfl) ?_
      refine r_cVv (As := []) (rest := []) ⟨hx, hb, hml, hown, hts⟩ (cX3_checkRoom_ok l D ct r u sa a n dc pa va dl ge su (by first | assumption | omega)) (cwV 0 hts gX3_edit_X3_checkRoom rfl rfl rfl (by decide +kernel) ⟨Nat.le_of_ble_eq_true rfl, Nat.le_of_ble_eq_true rfl⟩) hK (hP.sub (ws' := wR ct r a u sa ++ wT ct a n dc pa va dl ge su) [0, 1, 2, 3, 4, 5, 6, 7, 8] rfl) 0 3 rfl rfl rfl hl.1 rfl (Nat.le_of_ble_eq_true rfl) dX3_edit_68 ⟨Nat.le_of_ble_eq_true rfl, Nat.le_of_ble_eq_true rfl⟩ ?_
      refine lv_aload_n hx hb dX3_edit_71 rfl (lv_at hl 1 rfl) ?_
      refine lv_aload hx hb dX3_edit_72 (lv_at hl 0 rfl) ?_
      refine lv_iload_n hx hb dX3_edit_74 rfl (lv_at hl 3 rfl) ?_
      refine lv_iload_n hx hb dX3_edit_75 rfl (lv_at hl 4 rfl) ?_
      refine lv_iload hx hb dX3_edit_76 (lv_at hl 5 rfl) ?_
      refine lv_iconst (v := nI 0) hx hb dX3_edit_78 (by decide) ?_
      refine r_wVi (As := [.ref ((sa i) 0), .int (nI d), .int (eP (some k)), .int (nI v), .int (bI false)]) (rest := []) ⟨hx, hb, hml, hown, hts⟩ (cX3_grow_new l D ct r u sa a n dc pa va dl ge su (sa i) dp lt ch ck h hd nl wi d (some k) (nI v) false (by first | assumption | omega) (by first | assumption | omega) (by first | assumption | omega) (by first | assumption | omega) (by first | assumption | omega) (by first | assumption | omega) (by intro j9 h9; cases h9; exact hk) (by first | assumption | omega) (by first | assumption | omega) s.heap.size) (cwV 5 hts gX3_edit_X3_grow rfl rfl rfl (by decide +kernel) ⟨Nat.le_of_ble_eq_true rfl, Nat.le_of_ble_eq_true rfl⟩) hK hP hD hS hA [0, 1, 2, 3, 4, 5, 6, 7, 8, 9, 10, 11, 12, 13, 14, 15] rfl rfl rfl 0 3 rfl rfl rfl hl.1 rfl (Nat.le_of_ble_eq_true rfl) dX3_edit_79 ⟨Nat.le_of_ble_eq_true rfl, Nat.le_of_ble_eq_true rfl⟩ (fun H locs hP hD hS => ?_)
      have hP : va_P D vwCl (wR ct r a u sa ++ wT ct a (n + 1) (va_up dc n d) (va_up pa n (some k)) (va_up va n (nI v)) (va_up dl n false) (va_up ge n (mkg ge (some k))) (va_up su n (mksu ge su (some k) (nI v) false)) ++ wS ct (sa i) h dp (lt + nI 1) (va_up ch ((va_up dc n d) n) (lt + nI 1)) ck ++ wH ct h (stm (va_up hd n true) (flS (va_up pa n (some k)) (va_up ge n (mkg ge (some k))) (va_up hd n true) (n + 1) (n + 1)) (va_up ge n (mkg ge (some k))) dp (n + 1)) (flS (va_up pa n (some k)) (va_up ge n (mkg ge (some k))) (va_up hd n true) (n + 1) (n + 1)) (fwS (va_up dc n d) (va_up dl n false) (va_up ge n (mkg ge (some k))) (va_up su n (mksu ge su (some k) (nI v) false)) (ends (va_up hd n true) (flS (va_up pa n (some k)) (va_up ge n (mkg ge (some k))) (va_up hd n true) (n + 1) (n + 1))) (n + 1))) H := hP
      have hD : va_D A (wR ct r a u sa ++ wT ct a (n + 1) (va_up dc n d) (va_up pa n (some k)) (va_up va n (nI v)) (va_up dl n false) (va_up ge n (mkg ge (some k))) (va_up su n (mksu ge su (some k) (nI v) false)) ++ wS ct (sa i) h dp (lt + nI 1) (va_up ch ((va_up dc n d) n) (lt + nI 1)) ck ++ wH ct h (stm (va_up hd n true) (flS (va_up pa n (some k)) (va_up ge n (mkg ge (some k))) (va_up hd n true) (n + 1) (n + 1)) (va_up ge n (mkg ge (some k))) dp (n + 1)) (flS (va_up pa n (some k)) (va_up ge n (mkg ge (some k))) (va_up hd n true) (n + 1) (n + 1)) (fwS (va_up dc n d) (va_up dl n false) (va_up ge n (mkg ge (some k))) (va_up su n (mksu ge su (some k) (nI v) false)) (ends (va_up hd n true) (flS (va_up pa n (some k)) (va_up ge n (mkg ge (some k))) (va_up hd n true) (n + 1) (n + 1))) (n + 1))) := hD
      exact W.iret hx hb hr (fun t ht hW => ⟨⟨_, (), rfl, rfl, by show va_P D vwCl _ t.heap; rw [ht]; exact hP⟩, hS.F ht⟩) hS.2.2 dX3_edit_82
    · omega
set_option maxHeartbeats 8000000 in
set_option maxRecDepth 100000 in
theorem cX3_edit_bad3a (l : Launch) (hlt : l.stackTraces = false) (D : va_G) (ct : Nat → ClassId) (r : Nat → Nat) (u : Nat → Nat) (sa : Nat → Nat → Nat) (a : Nat → Nat) (n : Nat) (dc : Nat → Nat) (pa : Nat → Option Nat) (va : Nat → Int32) (dl : Nat → Bool) (ge : Nat → Nat) (su : Nat → Int32) (dp : Int32) (lt : Int32) (ch : Nat → Int32) (ck : Nat → Int32) (h : Nat → Nat) (hd : Nat → Bool) (nl : Nat → Nat) (wi : Nat → Option Nat) (i : Nat) (d : Nat) (v : Nat) (j : Nat) (hn : n ≤ 150) (hi : i < 3) (hd4 : d < 4) (hv : v ≤ 99) (hw : wi d = some j) (hj9 : j < 150) : vx_Met l yX3_edit wsX3_edit ({ frames := 7, cells := 1, slots := 6, locals := 120 } : Room) (bdPc D ct [.ref (r 0), .int (nI i), .int (nI d), .int (eP none), .int (nI v)] (wR ct r a u sa ++ wT ct a n dc pa va dl ge su ++ wS ct (sa i) h dp lt ch ck ++ wH ct h hd nl wi)) bdQ (bdX eS) 1 6 (fun _ => False) := by
  refine vx_ofW (cc := cX3_edit) (maxL := 6) (ret := (some .int)) (by decide) rfl ?_
  intro p e s m args below meth c s₁ B hml ht9 hv
  obtain ⟨rfl, hP, hK, hT⟩ := hv
  have hx := B.exec
  have hb := B.bytes
  have hr := B.returns
  have hts := atoms_spec (ws := wsX3_edit) B.pre
  have hown : s.vm.findClass RX3 = some m.cls := findClass_of_methodNamed B.named
  have hlocks := B.notSynchronized
  have hl := lv_entry ([.ref (r 0), .int (nI i), .int (nI d), .int (eP none), .int (nI v)]) (n := 6) (Nat.le_of_ble_eq_true rfl)
  rw [lg_entry_eq]
  generalize (lg_sl ([.ref (r 0), .int (nI i), .int (nI d), .int (eP none), .int (nI v)]) ++ List.replicate (6 - (lg_sl ([.ref (r 0), .int (nI i), .int (nI d), .int (eP none), .int (nI v)])).length) Slot.unset).toArray = ls at hl ⊢
  have hl : lv_has ls 6 [(0, .ref (r 0)), (1, .int (nI i)), (2, .int (nI d)), (3, .int (eP none)), (4, .int (nI v))] := hl
  refine lv_aload_n hx hb dX3_edit_0 rfl (lv_at hl 0 rfl) ?_
  refine lv_iload_n hx hb dX3_edit_1 rfl (lv_at hl 1 rfl) ?_
  refine r_cVr (As := [.int (nI i)]) (rest := []) ⟨hx, hb, hml, hown, hts⟩ (cX3_storeAt_ok l D ct r u sa a i (by first | assumption | omega)) (cwV 1 hts gX3_edit_X3_storeAt rfl rfl rfl (by decide +kernel) ⟨Nat.le_of_ble_eq_true rfl, Nat.le_of_ble_eq_true rfl⟩) hK (hP.sub (ws' := wR ct r a u sa) [0, 1] rfl) 0 3 rfl rfl rfl hl.1 rfl (Nat.le_of_ble_eq_true rfl) dX3_edit_2 ⟨Nat.le_of_ble_eq_true rfl, Nat.le_of_ble_eq_true rfl⟩ ?_
  refine lv_astore (lv' := [(5, .ref ((sa i) 0)), (0, .ref (r 0)), (1, .int (nI i)), (2, .int (nI d)), (3, .int (eP none)), (4, .int (nI v))]) hx hb dX3_edit_5 hl (by decide) rfl (fun ls hl => ?_)
  refine lv_aload_n hx hb dX3_edit_7 rfl (lv_at hl 1 rfl) ?_
  refine lv_iload_n hx hb dX3_edit_8 rfl (lv_at hl 3 rfl) ?_
  refine r_cVv (As := [.int (nI d)]) (rest := []) ⟨hx, hb, hml, hown, hts⟩ (cX3_checkDocument_ok l D ct r u sa a d (by first | assumption | omega)) (cwV 1 hts gX3_edit_X3_checkDocument rfl rfl rfl (by decide +kernel) ⟨Nat.le_of_ble_eq_true rfl, Nat.le_of_ble_eq_true rfl⟩) hK (hP.sub (ws' := wR ct r a u sa) [0, 1] rfl) 0 3 rfl rfl rfl hl.1 rfl (Nat.le_of_ble_eq_true rfl) dX3_edit_9 ⟨Nat.le_of_ble_eq_true rfl, Nat.le_of_ble_eq_true rfl⟩ ?_
  refine lv_iload_n hx hb dX3_edit_12 rfl (lv_at hl 4 rfl) ?_
  refine lv_iconst (v := -1) hx hb dX3_edit_13 (by decide) ?_
  refine lv_icmp_eq (x := -1) (y := -1) (tgt := 22) hx hb dX3_edit_14 (by decide) (fun _ => ?_) (fun h => absurd rfl h)
  refine lv_iload hx hb dX3_edit_22 (lv_at hl 5 rfl) ?_
  refine lv_if_lt (x := nI v) (tgt := 34) hx hb dX3_edit_24 (by decide) (fun c24 => ?_) (fun c24 => ?_)
  · exact absurd c24 (nI_pos (by omega))
  · refine lv_iload hx hb dX3_edit_27 (lv_at hl 5 rfl) ?_
    refine lv_bipush (v := nI 99) hx hb dX3_edit_29 (by decide) ?_
    refine r_icmp_leN hx hb (x := v) (y := 99) (by first | omega | decide) (by first | omega | decide) (tgt := 44) dX3_edit_31 (by decide) (fun c31 => ?_) (fun c31 => ?_)
    · refine lv_iload_n hx hb dX3_edit_44 rfl (lv_at hl 4 rfl) ?_
      refine lv_iconst (v := -1) hx hb dX3_edit_45 (by decide) ?_
      refine lv_icmp_ne (x := -1) (y := -1) (tgt := 59) hx hb dX3_edit_46 (by decide) (fun h => absurd rfl h) (fun _ => ?_)
      refine lv_aload_n hx hb dX3_edit_49 rfl (lv_at hl 1 rfl) ?_
      refine lv_aload hx hb dX3_edit_50 (lv_at hl 0 rfl) ?_
      refine lv_iload_n hx hb dX3_edit_52 rfl (lv_at hl 3 rfl) ?_
      exact r_xV (As := [.ref ((sa i) 0), .int (nI d)]) (rest := []) ⟨hx, hb, hml, hown, hts⟩ (cX3_checkNotBegun_bad l hlt D ct r u sa a (sa i) dp lt ch ck h hd nl wi d j (by first | assumption | omega) (by first | assumption | omega) (by first | assumption | omega)) (cwV 2 hts gX3_edit_X3_checkNotBegun rfl rfl rfl (by decide +kernel) ⟨Nat.le_of_ble_eq_true rfl, Nat.le_of_ble_eq_true rfl⟩) hK (hP.sub (ws' := wR ct r a u sa ++ wS ct (sa i) h dp lt ch ck ++ wH ct h hd nl wi) [0, 1, 9, 10, 11, 12, 13, 14, 15] rfl) hT 0 3 rfl rfl rfl hl.1 rfl (Nat.le_of_ble_eq_true rfl) dX3_edit_53 ⟨Nat.le_of_ble_eq_true rfl, Nat.le_of_ble_eq_true rfl⟩ ht9 hlocks
    · omega
set_option maxHeartbeats 8000000 in
set_option maxRecDepth 100000 in
theorem cX3_edit_bad3b (l : Launch) (hlt : l.stackTraces = false) (D : va_G) (ct : Nat → ClassId) (r : Nat → Nat) (u : Nat → Nat) (sa : Nat → Nat → Nat) (a : Nat → Nat) (n : Nat) (dc : Nat → Nat) (pa : Nat → Option Nat) (va : Nat → Int32) (dl : Nat → Bool) (ge : Nat → Nat) (su : Nat → Int32) (dp : Int32) (lt : Int32) (ch : Nat → Int32) (ck : Nat → Int32) (h : Nat → Nat) (hd : Nat → Bool) (nl : Nat → Nat) (wi : Nat → Option Nat) (i : Nat) (d : Nat) (k : Nat) (v : Nat) (hn : n ≤ 150) (hTd : ∀ k, dc k < 4) (hNl : ∀ k, nl k ≤ 151) (hi : i < 3) (hd4 : d < 4) (hk : k < n) (hv : v ≤ 99) (hbad : (decide (dc k = d) && ends hd nl k) = false) : vx_Met l yX3_edit wsX3_edit ({ frames := 7, cells := 1, slots := 6, locals := 120 } : Room) (bdPc D ct [.ref (r 0), .int (nI i), .int (nI d), .int (nI k), .int (nI v)] (wR ct r a u sa ++ wT ct a n dc pa va dl ge su ++ wS ct (sa i) h dp lt ch ck ++ wH ct h hd nl wi)) bdQ (bdX eS) 1 6 (fun _ => False) := by
  refine vx_ofW (cc := cX3_edit) (maxL := 6) (ret := (some .int)) (by decide) rfl ?_
  intro p e s m args below meth c s₁ B hml ht9 hv
  obtain ⟨rfl, hP, hK, hT⟩ := hv
  have hx := B.exec
  have hb := B.bytes
  have hr := B.returns
  have hts := atoms_spec (ws := wsX3_edit) B.pre
  have hown : s.vm.findClass RX3 = some m.cls := findClass_of_methodNamed B.named
  have hlocks := B.notSynchronized
  have hl := lv_entry ([.ref (r 0), .int (nI i), .int (nI d), .int (nI k), .int (nI v)]) (n := 6) (Nat.le_of_ble_eq_true rfl)
  rw [lg_entry_eq]
  generalize (lg_sl ([.ref (r 0), .int (nI i), .int (nI d), .int (nI k), .int (nI v)]) ++ List.replicate (6 - (lg_sl ([.ref (r 0), .int (nI i), .int (nI d), .int (nI k), .int (nI v)])).length) Slot.unset).toArray = ls at hl ⊢
  have hl : lv_has ls 6 [(0, .ref (r 0)), (1, .int (nI i)), (2, .int (nI d)), (3, .int (nI k)), (4, .int (nI v))] := hl
  refine lv_aload_n hx hb dX3_edit_0 rfl (lv_at hl 0 rfl) ?_
  refine lv_iload_n hx hb dX3_edit_1 rfl (lv_at hl 1 rfl) ?_
  refine r_cVr (As := [.int (nI i)]) (rest := []) ⟨hx, hb, hml, hown, hts⟩ (cX3_storeAt_ok l D ct r u sa a i (by first | assumption | omega)) (cwV 1 hts gX3_edit_X3_storeAt rfl rfl rfl (by decide +kernel) ⟨Nat.le_of_ble_eq_true rfl, Nat.le_of_ble_eq_true rfl⟩) hK (hP.sub (ws' := wR ct r a u sa) [0, 1] rfl) 0 3 rfl rfl rfl hl.1 rfl (Nat.le_of_ble_eq_true rfl) dX3_edit_2 ⟨Nat.le_of_ble_eq_true rfl, Nat.le_of_ble_eq_true rfl⟩ ?_
  refine lv_astore (lv' := [(5, .ref ((sa i) 0)), (0, .ref (r 0)), (1, .int (nI i)), (2, .int (nI d)), (3, .int (nI k)), (4, .int (nI v))]) hx hb dX3_edit_5 hl (by decide) rfl (fun ls hl => ?_)
  refine lv_aload_n hx hb dX3_edit_7 rfl (lv_at hl 1 rfl) ?_
  refine lv_iload_n hx hb dX3_edit_8 rfl (lv_at hl 3 rfl) ?_
  refine r_cVv (As := [.int (nI d)]) (rest := []) ⟨hx, hb, hml, hown, hts⟩ (cX3_checkDocument_ok l D ct r u sa a d (by first | assumption | omega)) (cwV 1 hts gX3_edit_X3_checkDocument rfl rfl rfl (by decide +kernel) ⟨Nat.le_of_ble_eq_true rfl, Nat.le_of_ble_eq_true rfl⟩) hK (hP.sub (ws' := wR ct r a u sa) [0, 1] rfl) 0 3 rfl rfl rfl hl.1 rfl (Nat.le_of_ble_eq_true rfl) dX3_edit_9 ⟨Nat.le_of_ble_eq_true rfl, Nat.le_of_ble_eq_true rfl⟩ ?_
  refine lv_iload_n hx hb dX3_edit_12 rfl (lv_at hl 4 rfl) ?_
  refine lv_iconst (v := -1) hx hb dX3_edit_13 (by decide) ?_
  refine r_icmp_eqN1 hx hb (x := k) (by first | omega | decide) (tgt := 22) dX3_edit_14 (by decide) ?_
  refine lv_aload_n hx hb dX3_edit_17 rfl (lv_at hl 1 rfl) ?_
  refine lv_iload_n hx hb dX3_edit_18 rfl (lv_at hl 4 rfl) ?_
  refine r_cVv (As := [.int (nI k)]) (rest := []) ⟨hx, hb, hml, hown, hts⟩ (cX3_checkRevision_ok l D ct r u sa a n dc pa va dl ge su k (by first | assumption | omega) (by first | assumption | omega)) (cwV 1 hts gX3_edit_X3_checkRevision rfl rfl rfl (by decide +kernel) ⟨Nat.le_of_ble_eq_true rfl, Nat.le_of_ble_eq_true rfl⟩) hK (hP.sub (ws' := wR ct r a u sa ++ wT ct a n dc pa va dl ge su) [0, 1, 2, 3, 4, 5, 6, 7, 8] rfl) 0 3 rfl rfl rfl hl.1 rfl (Nat.le_of_ble_eq_true rfl) dX3_edit_19 ⟨Nat.le_of_ble_eq_true rfl, Nat.le_of_ble_eq_true rfl⟩ ?_
  refine lv_iload hx hb dX3_edit_22 (lv_at hl 5 rfl) ?_
  refine lv_if_lt (x := nI v) (tgt := 34) hx hb dX3_edit_24 (by decide) (fun c24 => ?_) (fun c24 => ?_)
  · exact absurd c24 (nI_pos (by omega))
  · refine lv_iload hx hb dX3_edit_27 (lv_at hl 5 rfl) ?_
    refine lv_bipush (v := nI 99) hx hb dX3_edit_29 (by decide) ?_
    refine r_icmp_leN hx hb (x := v) (y := 99) (by first | omega | decide) (by first | omega | decide) (tgt := 44) dX3_edit_31 (by decide) (fun c31 => ?_) (fun c31 => ?_)
    · refine lv_iload_n hx hb dX3_edit_44 rfl (lv_at hl 4 rfl) ?_
      refine lv_iconst (v := -1) hx hb dX3_edit_45 (by decide) ?_
      refine r_icmp_neN1 hx hb (x := k) (by first | omega | decide) (tgt := 59) dX3_edit_46 (by decide) ?_
      refine lv_aload_n hx hb dX3_edit_59 rfl (lv_at hl 1 rfl) ?_
      refine lv_aload hx hb dX3_edit_60 (lv_at hl 0 rfl) ?_
      refine lv_iload_n hx hb dX3_edit_62 rfl (lv_at hl 3 rfl) ?_
      refine lv_iload_n hx hb dX3_edit_63 rfl (lv_at hl 4 rfl) ?_
      exact r_xV (As := [.ref ((sa i) 0), .int (nI d), .int (nI k)]) (rest := []) ⟨hx, hb, hml, hown, hts⟩ (cX3_checkLeaf_bad l hlt D ct r u sa a n dc pa va dl ge su (sa i) dp lt ch ck h hd nl wi d k (by first | assumption | omega) (by first | assumption | omega) (by first | assumption | omega) (by first | assumption | omega) (by first | assumption | omega) (by first | assumption | omega)) (cwV 3 hts gX3_edit_X3_checkLeaf rfl rfl rfl (by decide +kernel) ⟨Nat.le_of_ble_eq_true rfl, Nat.le_of_ble_eq_true rfl⟩) hK (hP.sub (ws' := wR ct r a u sa ++ wT ct a n dc pa va dl ge su ++ wS ct (sa i) h dp lt ch ck ++ wH ct h hd nl wi) [0, 1, 2, 3, 4, 5, 6, 7, 8, 9, 10, 11, 12, 13, 14, 15] rfl) hT 0 3 rfl rfl rfl hl.1 rfl (Nat.le_of_ble_eq_true rfl) dX3_edit_64 ⟨Nat.le_of_ble_eq_true rfl, Nat.le_of_ble_eq_true rfl⟩ ht9 hlocks
    · omega
