set_option maxHeartbeats 8000000 in
set_option maxRecDepth 100000 in
theorem cX4_edit_found (l : Launch) (D : va_G) (ct : Nat → ClassId) (g : Nat → Nat) (n : Nat) (dc : Nat → Nat) (pa : Nat → Option Nat) (va : Nat → Int32) (dl : Nat → Bool) (ge : Nat → Nat) (su : Nat → Int32) (mk : Nat → Bool) (dp : Nat → Int32) (sq : Nat → Int32) (tc : Nat → Int32) (kp : Nat → Int32) (la : Int32) (i : Nat) (d : Nat) (o : Option Nat) (v : Nat) (j : Nat) (hn : n ≤ 150) (hTd : ∀ k, dc k < 4) (hTg : ∀ k, ge k ≤ 150) (hTp : ∀ k j, k < n → pa k = some j → j < k) (hi : i < 3) (hd4 : d < 4) (ho : ∀ j, o = some j → j < n) (hv : v ≤ 99) (hcan : cne dc (lef pa mk i n) (bsS dc dl ge su (lef pa mk i n) d n) n d o = true) (hf : ffd (fnd dc pa va dl d o (nI v) false) n = some j) (hj : j < n) (hm : mk ((150 * i) + j) = false) (sz : Nat) : Met l yX4_edit wsX4_edit ({ frames := 6, cells := 0, slots := 0, locals := 142 } : Room) (wrPc D ct [.ref (g 0), .int (nI i), .int (nI d), .int (eP o), .int (nI v)] (wM ct g n dc pa va dl ge su mk dp sq tc kp la) sz) (wqI D (nI j) (wM ct g n dc pa va dl ge su ((smS pa ge dp i n (va_up mk ((150 * i) + j) true) n).2) dp (va_up sq i (sq i + nI 1)) (va_up tc ((4 * i) + d) (sq i + nI 1)) kp (nI 0)) (va_A (wM ct g n dc pa va dl ge su mk dp sq tc kp la) sz)) 0 0 (va_A (wM ct g n dc pa va dl ge su mk dp sq tc kp la) sz) := by
  refine Met.ofW (cc := cX4_edit) (maxL := 6) (ret := (some .int)) (by decide) rfl ?_
  intro p e s m args below meth c s₁ B hml hv
  obtain ⟨rfl, hsz, hP, hK, hD0⟩ := hv
  have hx := B.exec
  have hb := B.bytes
  have hr := B.returns
  have hts := atoms_spec (ws := wsX4_edit) B.pre
  have hown : s.vm.findClass RX4 = some m.cls := findClass_of_methodNamed B.named
  have hlocks := B.notSynchronized
  subst hsz
  have hD := hD0.self (sz := s.heap.size)
  generalize hAe : va_A (wM ct g n dc pa va dl ge su mk dp sq tc kp la) s.heap.size = A at hD ⊢
  have hA : ∀ q : Nat, s.heap.size ≤ q → A q := fun q h => by rw [← hAe]; exact Or.inr h
  have hS : va_S A s.heap s.heap [] := va_S.rf
  have hP : va_P D vwCl (wM ct g n dc pa va dl ge su mk dp sq tc kp la) s.heap := hP
  clear hAe hD0
  have hl := lv_entry ([.ref (g 0), .int (nI i), .int (nI d), .int (eP o), .int (nI v)]) (n := 6) (Nat.le_of_ble_eq_true rfl)
  rw [lg_entry_eq]
  generalize (lg_sl ([.ref (g 0), .int (nI i), .int (nI d), .int (eP o), .int (nI v)]) ++ List.replicate (6 - (lg_sl ([.ref (g 0), .int (nI i), .int (nI d), .int (eP o), .int (nI v)])).length) Slot.unset).toArray = ls at hl ⊢
  have hl : lv_has ls 6 [(0, .ref (g 0)), (1, .int (nI i)), (2, .int (nI d)), (3, .int (eP o)), (4, .int (nI v))] := hl
  have hH0 : s.heap.size ≤ s.heap.size := Nat.le_refl _
  have jn32 : ∀ (H : Heap) (locs : List Loc) (ls : Array Slot), va_P D vwCl (wM ct g n dc pa va dl ge su mk dp sq tc kp la) H → va_D A (wM ct g n dc pa va dl ge su mk dp sq tc kp la) → va_S A s.heap H locs → lv_has ls 6 [(0, .ref (g 0)), (1, .int (nI i)), (2, .int (nI d)), (3, .int (eP o)), (4, .int (nI v))] → W p l e ({ frames := 6, cells := 0, slots := 0, locals := 142 } : Room) s m ([.ref (g 0), .int (nI i), .int (nI d), .int (eP o), .int (nI v)] : List Value).toArray below meth c H locs 0 0 (MQ below (wqI D (nI j) (wM ct g n dc pa va dl ge su ((smS pa ge dp i n (va_up mk ((150 * i) + j) true) n).2) dp (va_up sq i (sq i + nI 1)) (va_up tc ((4 * i) + d) (sq i + nI 1)) kp (nI 0)) A) ([.ref (g 0), .int (nI i), .int (nI d), .int (eP o), .int (nI v)] : List Value).toArray s 0 0 A) (F0 m 32 ls [.int (bI true)]) := by
    intro H locs ls hP hD hS hl
    refine lv_istore (lv' := [(5, .int (bI true)), (0, .ref (g 0)), (1, .int (nI i)), (2, .int (nI d)), (3, .int (eP o)), (4, .int (nI v))]) hx hb dX4_edit_32 hl (by decide) rfl (fun ls hl => ?_)
    refine lv_aload_n hx hb dX4_edit_34 rfl (lv_at hl 1 rfl) ?_
    refine lv_iload hx hb dX4_edit_35 (lv_at hl 0 rfl) ?_
    refine lv_iload hx hb dX4_edit_37 (lv_at hl 5 rfl) ?_
    refine lv_iconst (v := nI 0) hx hb dX4_edit_39 (by decide) ?_
    refine lv_bipush (v := nI 99) hx hb dX4_edit_40 (by decide) ?_
    refine r_cS (As := [.int (nI v), .int (nI 0), .int (nI 99)]) (rest := [.int (bI true), .ref (g 0)]) ⟨hx, hb, hml, hown, hts⟩ (cX4_in_ok l D ct (nI v) (nI 0) (nI 99) ) (va_cwS 3 hts gX4_edit_X4_in rfl rfl rfl (by decide +kernel) ⟨Nat.le_of_ble_eq_true rfl, Nat.le_of_ble_eq_true rfl⟩) hK va_Pnil rfl hl.1 rfl (Nat.le_of_ble_eq_true rfl) dX4_edit_42 ⟨Nat.le_of_ble_eq_true rfl, Nat.le_of_ble_eq_true rfl⟩ ?_
    refine r_top (y := bI true) (congrArg bI (show (inn (nI v) (nI 0) (nI 99)) = true from inn_t hv (by decide))) ?_
    refine lv_iload hx hb dX4_edit_45 (lv_at hl 0 rfl) ?_
    refine r_if_eqB (x := true) (tgt := 64) hx hb dX4_edit_47 (by decide) (fun c47 => by cases c47) (fun c47 => ?_)
    refine lv_aload_n hx hb dX4_edit_50 rfl (lv_at hl 1 rfl) ?_
    refine lv_iload_n hx hb dX4_edit_51 rfl (lv_at hl 2 rfl) ?_
    refine lv_iload_n hx hb dX4_edit_52 rfl (lv_at hl 3 rfl) ?_
    refine lv_iload_n hx hb dX4_edit_53 rfl (lv_at hl 4 rfl) ?_
    refine r_cV (As := [.int (nI i), .int (nI d), .int (eP o)]) (rest := [.int (bI true), .int (bI true), .ref (g 0)]) ⟨hx, hb, hml, hown, hts⟩ (cX4_canEdit_ok l D ct g n dc pa va dl ge su mk dp sq tc kp la i d o (by first | assumption | omega) (by first | assumption | omega) (by first | assumption | omega) (by first | assumption | omega) (by first | assumption | omega) (by first | assumption | omega) (by first | assumption | omega)) (cwV 3 hts gX4_edit_X4_canEdit rfl rfl rfl (by decide +kernel) ⟨Nat.le_of_ble_eq_true rfl, Nat.le_of_ble_eq_true rfl⟩) hK (hP.sub (ws' := wM ct g n dc pa va dl ge su mk dp sq tc kp la) [0, 1, 2, 3, 4, 5, 6, 7, 8, 9, 10, 11] rfl) 0 4 rfl rfl rfl hl.1 rfl (Nat.le_of_ble_eq_true rfl) dX4_edit_54 ⟨Nat.le_of_ble_eq_true rfl, Nat.le_of_ble_eq_true rfl⟩ ?_
    refine r_top (y := bI true) (congrArg bI (show (cne dc (lef pa mk i n) (bsS dc dl ge su (lef pa mk i n) d n) n d o) = true from hcan)) ?_
    refine r_if_eqB (x := true) (tgt := 64) hx hb dX4_edit_57 (by decide) (fun c57 => by cases c57) (fun c57 => ?_)
    refine lv_iconst (v := nI 1) hx hb dX4_edit_60 (by decide) ?_
    refine lv_goto (tgt := 65) hx hb dX4_edit_61 (by decide) ?_
    refine r_wVi (As := [.int (bI true), .int (bI true), .int (bI true)]) (rest := []) ⟨hx, hb, hml, hown, hts⟩ (cX4_goes_ok l D ct g n dc pa va dl ge su mk dp sq tc kp la true true true  H.size) (cwV 3 hts gX4_edit_X4_goes rfl rfl rfl (by decide +kernel) ⟨Nat.le_of_ble_eq_true rfl, Nat.le_of_ble_eq_true rfl⟩) hK hP hD hS hA [0, 1, 2, 3, 4, 5, 6, 7, 8, 9, 10, 11] rfl rfl rfl 0 4 rfl rfl rfl hl.1 rfl (Nat.le_of_ble_eq_true rfl) dX4_edit_65 ⟨Nat.le_of_ble_eq_true rfl, Nat.le_of_ble_eq_true rfl⟩ (fun H locs hP hD hS => ?_)
    have hP : va_P D vwCl (wM ct g n dc pa va dl ge su mk dp sq tc kp (gof true true true)) H := hP
    have hD : va_D A (wM ct g n dc pa va dl ge su mk dp sq tc kp (gof true true true)) := hD
    refine r_top (y := bI true) (congrArg bI (show (true && (true && true)) = true from rfl)) ?_
    refine r_if_neB (x := true) (tgt := 73) hx hb dX4_edit_68 (by decide) (fun c68 => ?_) (fun c68 => by cases c68)
    refine lv_aload_n hx hb dX4_edit_73 rfl (lv_at hl 1 rfl) ?_
    refine lv_iload_n hx hb dX4_edit_74 rfl (lv_at hl 2 rfl) ?_
    refine lv_iload_n hx hb dX4_edit_75 rfl (lv_at hl 3 rfl) ?_
    refine lv_iload_n hx hb dX4_edit_76 rfl (lv_at hl 4 rfl) ?_
    refine lv_iload hx hb dX4_edit_77 (lv_at hl 5 rfl) ?_
    refine lv_iconst (v := nI 0) hx hb dX4_edit_79 (by decide) ?_
    refine r_wVi (As := [.int (nI i), .int (nI d), .int (eP o), .int (nI v), .int (bI false)]) (rest := []) ⟨hx, hb, hml, hown, hts⟩ (cX4_adds_found l D ct g n dc pa va dl ge su mk dp sq tc kp (gof true true true) i d o (nI v) false j (by first | assumption | omega) (by first | assumption | omega) (by first | assumption | omega) (by first | assumption | omega) (by first | assumption | omega) (by first | assumption | omega) (by first | assumption | omega) (by first | assumption | omega) (by first | assumption | omega) (by first | assumption | omega) H.size) (cwV 5 hts gX4_edit_X4_adds rfl rfl rfl (by decide +kernel) ⟨Nat.le_of_ble_eq_true rfl, Nat.le_of_ble_eq_true rfl⟩) hK hP hD hS hA [0, 1, 2, 3, 4, 5, 6, 7, 8, 9, 10, 11] rfl rfl rfl 0 4 rfl rfl rfl hl.1 rfl (Nat.le_of_ble_eq_true rfl) dX4_edit_80 ⟨Nat.le_of_ble_eq_true rfl, Nat.le_of_ble_eq_true rfl⟩ (fun H locs hP hD hS => ?_)
    have hP : va_P D vwCl (wM ct g n dc pa va dl ge su ((smS pa ge dp i n (va_up mk ((150 * i) + j) true) n).2) dp (va_up sq i (sq i + nI 1)) (va_up tc ((4 * i) + d) (sq i + nI 1)) kp (gof true true true)) H := hP
    have hD : va_D A (wM ct g n dc pa va dl ge su ((smS pa ge dp i n (va_up mk ((150 * i) + j) true) n).2) dp (va_up sq i (sq i + nI 1)) (va_up tc ((4 * i) + d) (sq i + nI 1)) kp (gof true true true)) := hD
    have e9 : (gof true true true) = (nI 0) := rfl
    have hP := (congrArg (fun z9 => va_P D vwCl (wM ct g n dc pa va dl ge su ((smS pa ge dp i n (va_up mk ((150 * i) + j) true) n).2) dp (va_up sq i (sq i + nI 1)) (va_up tc ((4 * i) + d) (sq i + nI 1)) kp z9) H) e9).mp hP
    have hP : va_P D vwCl (wM ct g n dc pa va dl ge su ((smS pa ge dp i n (va_up mk ((150 * i) + j) true) n).2) dp (va_up sq i (sq i + nI 1)) (va_up tc ((4 * i) + d) (sq i + nI 1)) kp (nI 0)) H := hP
    exact W.iret hx hb hr (fun t ht hW => ⟨⟨_, (), rfl, rfl, by show va_P D vwCl _ t.heap; rw [ht]; exact hP⟩, hS.F ht⟩) hS.2.2 dX4_edit_83
  refine lv_iload_n hx hb dX4_edit_0 rfl (lv_at hl 1 rfl) ?_
  refine r_cS (As := [.int (nI i)]) (rest := []) ⟨hx, hb, hml, hown, hts⟩ (cX4_isStore_ok l D ct (nI i) ) (va_cwS 1 hts gX4_edit_X4_isStore rfl rfl rfl (by decide +kernel) ⟨Nat.le_of_ble_eq_true rfl, Nat.le_of_ble_eq_true rfl⟩) hK va_Pnil rfl hl.1 rfl (Nat.le_of_ble_eq_true rfl) dX4_edit_1 ⟨Nat.le_of_ble_eq_true rfl, Nat.le_of_ble_eq_true rfl⟩ ?_
  refine r_top (y := bI true) (congrArg bI (show (inn (nI i) (nI 0) (nI 2)) = true from inn_t (by omega) (by decide))) ?_
  refine r_if_eqB (x := true) (tgt := 31) hx hb dX4_edit_4 (by decide) (fun c4 => by cases c4) (fun c4 => ?_)
  refine lv_iload_n hx hb dX4_edit_7 rfl (lv_at hl 2 rfl) ?_
  refine r_cS (As := [.int (nI d)]) (rest := []) ⟨hx, hb, hml, hown, hts⟩ (cX4_isDocument_ok l D ct (nI d) ) (va_cwS 1 hts gX4_edit_X4_isDocument rfl rfl rfl (by decide +kernel) ⟨Nat.le_of_ble_eq_true rfl, Nat.le_of_ble_eq_true rfl⟩) hK va_Pnil rfl hl.1 rfl (Nat.le_of_ble_eq_true rfl) dX4_edit_8 ⟨Nat.le_of_ble_eq_true rfl, Nat.le_of_ble_eq_true rfl⟩ ?_
  refine r_top (y := bI true) (congrArg bI (show (inn (nI d) (nI 0) (nI 3)) = true from inn_t (by omega) (by decide))) ?_
  refine r_if_eqB (x := true) (tgt := 31) hx hb dX4_edit_11 (by decide) (fun c11 => by cases c11) (fun c11 => ?_)
  refine lv_iload_n hx hb dX4_edit_14 rfl (lv_at hl 3 rfl) ?_
  refine lv_iconst (v := -1) hx hb dX4_edit_15 (by decide) ?_
  refine r_icmp_eqP hx hb (x := o) (by intro j9 h9; have := ho _ h9; omega) (tgt := 27) dX4_edit_16 (by decide) (fun c16 => ?_) (fun j16 c16 => ?_)
  · have hl := lv_re (f := fun z9 => [(0, .ref (g 0)), (1, .int (nI i)), (2, .int (nI d)), (3, .int z9), (4, .int (nI v))]) hl (show eP o = eP none from congrArg eP c16)
    refine lv_iconst (v := nI 1) hx hb dX4_edit_27 (by decide) ?_
    refine lv_goto (tgt := 32) hx hb dX4_edit_28 (by decide) ?_
    refine r_top (y := bI true) (congrArg bI (show true = true from rfl)) ?_
    have hl := lv_re (f := fun z9 => [(0, .ref (g 0)), (1, .int (nI i)), (2, .int (nI d)), (3, .int z9), (4, .int (nI v))]) hl (show eP none = eP o from congrArg eP (show none = o from c16.symm))
    exact jn32 _ _ ls hP hD hS (lv_sub hl [0, 1, 2, 3, 4] rfl)
  · have hl := lv_re (f := fun z9 => [(0, .ref (g 0)), (1, .int (nI i)), (2, .int (nI d)), (3, .int z9), (4, .int (nI v))]) hl (show eP o = nI j16 from congrArg eP c16)
    refine lv_aload_n hx hb dX4_edit_19 rfl (lv_at hl 0 rfl) ?_
    refine lv_iload_n hx hb dX4_edit_20 rfl (lv_at hl 3 rfl) ?_
    refine r_cV (As := [.int (nI j16)]) (rest := []) ⟨hx, hb, hml, hown, hts⟩ (cX4_isRevision_ok l D ct g n dc pa va dl ge su mk dp sq tc kp la (nI j16) ) (cwV 1 hts gX4_edit_X4_isRevision rfl rfl rfl (by decide +kernel) ⟨Nat.le_of_ble_eq_true rfl, Nat.le_of_ble_eq_true rfl⟩) hK (hP.sub (ws' := wM ct g n dc pa va dl ge su mk dp sq tc kp la) [0, 1, 2, 3, 4, 5, 6, 7, 8, 9, 10, 11] rfl) 0 4 rfl rfl rfl hl.1 rfl (Nat.le_of_ble_eq_true rfl) dX4_edit_21 ⟨Nat.le_of_ble_eq_true rfl, Nat.le_of_ble_eq_true rfl⟩ ?_
    refine r_top (y := bI true) (congrArg bI (show (inn (nI j16) (nI 0) (eP (prd n))) = true from inn_r (by have := ho _ c16; omega) hn)) ?_
    refine r_if_eqB (x := true) (tgt := 31) hx hb dX4_edit_24 (by decide) (fun c24 => by cases c24) (fun c24 => ?_)
    refine lv_iconst (v := nI 1) hx hb dX4_edit_27 (by decide) ?_
    refine lv_goto (tgt := 32) hx hb dX4_edit_28 (by decide) ?_
    refine r_top (y := bI true) (congrArg bI (show true = true from rfl)) ?_
    have hl := lv_re (f := fun z9 => [(0, .ref (g 0)), (1, .int (nI i)), (2, .int (nI d)), (3, .int z9), (4, .int (nI v))]) hl (show nI j16 = eP o from congrArg eP (show some j16 = o from c16.symm))
    exact jn32 _ _ ls hP hD hS (lv_sub hl [0, 1, 2, 3, 4] rfl)
set_option maxHeartbeats 8000000 in
set_option maxRecDepth 100000 in
theorem cX4_edit_new (l : Launch) (D : va_G) (ct : Nat → ClassId) (g : Nat → Nat) (n : Nat) (dc : Nat → Nat) (pa : Nat → Option Nat) (va : Nat → Int32) (dl : Nat → Bool) (ge : Nat → Nat) (su : Nat → Int32) (mk : Nat → Bool) (dp : Nat → Int32) (sq : Nat → Int32) (tc : Nat → Int32) (kp : Nat → Int32) (la : Int32) (i : Nat) (d : Nat) (o : Option Nat) (v : Nat) (hn9 : n < 150) (hn : n ≤ 150) (hTd : ∀ k, dc k < 4) (hTg : ∀ k, ge k ≤ 150) (hTp : ∀ k j, k < n → pa k = some j → j < k) (hi : i < 3) (hd4 : d < 4) (ho : ∀ j, o = some j → j < n) (hv : v ≤ 99) (hcan : cne dc (lef pa mk i n) (bsS dc dl ge su (lef pa mk i n) d n) n d o = true) (hg1 : mkg ge o ≤ 150) (hf : ffd (fnd dc pa va dl d o (nI v) false) n = none) (hm : mk ((150 * i) + n) = false) (sz : Nat) : Met l yX4_edit wsX4_edit ({ frames := 6, cells := 0, slots := 0, locals := 142 } : Room) (wrPc D ct [.ref (g 0), .int (nI i), .int (nI d), .int (eP o), .int (nI v)] (wM ct g n dc pa va dl ge su mk dp sq tc kp la) sz) (wqI D (nI n) (wM ct g (n + 1) (va_up dc n d) (va_up pa n o) (va_up va n (nI v)) (va_up dl n false) (va_up ge n (mkg ge o)) (va_up su n (mksu ge su o (nI v) false)) ((smS (va_up pa n o) (va_up ge n (mkg ge o)) dp i (n + 1) (va_up mk ((150 * i) + n) true) (n + 1)).2) dp (va_up sq i (sq i + nI 1)) (va_up tc ((4 * i) + d) (sq i + nI 1)) kp (nI 0)) (va_A (wM ct g n dc pa va dl ge su mk dp sq tc kp la) sz)) 0 0 (va_A (wM ct g n dc pa va dl ge su mk dp sq tc kp la) sz) := by
  refine Met.ofW (cc := cX4_edit) (maxL := 6) (ret := (some .int)) (by decide) rfl ?_
  intro p e s m args below meth c s₁ B hml hv
  obtain ⟨rfl, hsz, hP, hK, hD0⟩ := hv
  have hx := B.exec
  have hb := B.bytes
  have hr := B.returns
  have hts := atoms_spec (ws := wsX4_edit) B.pre
  have hown : s.vm.findClass RX4 = some m.cls := findClass_of_methodNamed B.named
  have hlocks := B.notSynchronized
  subst hsz
  have hD := hD0.self (sz := s.heap.size)
  generalize hAe : va_A (wM ct g n dc pa va dl ge su mk dp sq tc kp la) s.heap.size = A at hD ⊢
  have hA : ∀ q : Nat, s.heap.size ≤ q → A q := fun q h => by rw [← hAe]; exact Or.inr h
  have hS : va_S A s.heap s.heap [] := va_S.rf
  have hP : va_P D vwCl (wM ct g n dc pa va dl ge su mk dp sq tc kp la) s.heap := hP
  clear hAe hD0
  have hl := lv_entry ([.ref (g 0), .int (nI i), .int (nI d), .int (eP o), .int (nI v)]) (n := 6) (Nat.le_of_ble_eq_true rfl)
  rw [lg_entry_eq]
  generalize (lg_sl ([.ref (g 0), .int (nI i), .int (nI d), .int (eP o), .int (nI v)]) ++ List.replicate (6 - (lg_sl ([.ref (g 0), .int (nI i), .int (nI d), .int (eP o), .int (nI v)])).length) Slot.unset).toArray = ls at hl ⊢
  have hl : lv_has ls 6 [(0, .ref (g 0)), (1, .int (nI i)), (2, .int (nI d)), (3, .int (eP o)), (4, .int (nI v))] := hl
  have hH0 : s.heap.size ≤ s.heap.size := Nat.le_refl _
  have jn32 : ∀ (H : Heap) (locs : List Loc) (ls : Array Slot), va_P D vwCl (wM ct g n dc pa va dl ge su mk dp sq tc kp la) H → va_D A (wM ct g n dc pa va dl ge su mk dp sq tc kp la) → va_S A s.heap H locs → lv_has ls 6 [(0, .ref (g 0)), (1, .int (nI i)), (2, .int (nI d)), (3, .int (eP o)), (4, .int (nI v))] → W p l e ({ frames := 6, cells := 0, slots := 0, locals := 142 } : Room) s m ([.ref (g 0), .int (nI i), .int (nI d), .int (eP o), .int (nI v)] : List Value).toArray below meth c H locs 0 0 (MQ below (wqI D (nI n) (wM ct g (n + 1) (va_up dc n d) (va_up pa n o) (va_up va n (nI v)) (va_up dl n false) (va_up ge n (mkg ge o)) (va_up su n (mksu ge su o (nI v) false)) ((smS (va_up pa n o) (va_up ge n (mkg ge o)) dp i (n + 1) (va_up mk ((150 * i) + n) true) (n + 1)).2) dp (va_up sq i (sq i + nI 1)) (va_up tc ((4 * i) + d) (sq i + nI 1)) kp (nI 0)) A) ([.ref (g 0), .int (nI i), .int (nI d), .int (eP o), .int (nI v)] : List Value).toArray s 0 0 A) (F0 m 32 ls [.int (bI true)]) := by
    intro H locs ls hP hD hS hl
    refine lv_istore (lv' := [(5, .int (bI true)), (0, .ref (g 0)), (1, .int (nI i)), (2, .int (nI d)), (3, .int (eP o)), (4, .int (nI v))]) hx hb dX4_edit_32 hl (by decide) rfl (fun ls hl => ?_)
    refine lv_aload_n hx hb dX4_edit_34 rfl (lv_at hl 1 rfl) ?_
    refine lv_iload hx hb dX4_edit_35 (lv_at hl 0 rfl) ?_
    refine lv_iload hx hb dX4_edit_37 (lv_at hl 5 rfl) ?_
    refine lv_iconst (v := nI 0) hx hb dX4_edit_39 (by decide) ?_
    refine lv_bipush (v := nI 99) hx hb dX4_edit_40 (by decide) ?_
    refine r_cS (As := [.int (nI v), .int (nI 0), .int (nI 99)]) (rest := [.int (bI true), .ref (g 0)]) ⟨hx, hb, hml, hown, hts⟩ (cX4_in_ok l D ct (nI v) (nI 0) (nI 99) ) (va_cwS 3 hts gX4_edit_X4_in rfl rfl rfl (by decide +kernel) ⟨Nat.le_of_ble_eq_true rfl, Nat.le_of_ble_eq_true rfl⟩) hK va_Pnil rfl hl.1 rfl (Nat.le_of_ble_eq_true rfl) dX4_edit_42 ⟨Nat.le_of_ble_eq_true rfl, Nat.le_of_ble_eq_true rfl⟩ ?_
    refine r_top (y := bI true) (congrArg bI (show (inn (nI v) (nI 0) (nI 99)) = true from inn_t hv (by decide))) ?_
    refine lv_iload hx hb dX4_edit_45 (lv_at hl 0 rfl) ?_
    refine r_if_eqB (x := true) (tgt := 64) hx hb dX4_edit_47 (by decide) (fun c47 => by cases c47) (fun c47 => ?_)
    refine lv_aload_n hx hb dX4_edit_50 rfl (lv_at hl 1 rfl) ?_
    refine lv_iload_n hx hb dX4_edit_51 rfl (lv_at hl 2 rfl) ?_
    refine lv_iload_n hx hb dX4_edit_52 rfl (lv_at hl 3 rfl) ?_
    refine lv_iload_n hx hb dX4_edit_53 rfl (lv_at hl 4 rfl) ?_
    refine r_cV (As := [.int (nI i), .int (nI d), .int (eP o)]) (rest := [.int (bI true), .int (bI true), .ref (g 0)]) ⟨hx, hb, hml, hown, hts⟩ (cX4_canEdit_ok l D ct g n dc pa va dl ge su mk dp sq tc kp la i d o (by first | assumption | omega) (by first | assumption | omega) (by first | assumption | omega) (by first | assumption | omega) (by first | assumption | omega) (by first | assumption | omega) (by first | assumption | omega)) (cwV 3 hts gX4_edit_X4_canEdit rfl rfl rfl (by decide +kernel) ⟨Nat.le_of_ble_eq_true rfl, Nat.le_of_ble_eq_true rfl⟩) hK (hP.sub (ws' := wM ct g n dc pa va dl ge su mk dp sq tc kp la) [0, 1, 2, 3, 4, 5, 6, 7, 8, 9, 10, 11] rfl) 0 4 rfl rfl rfl hl.1 rfl (Nat.le_of_ble_eq_true rfl) dX4_edit_54 ⟨Nat.le_of_ble_eq_true rfl, Nat.le_of_ble_eq_true rfl⟩ ?_
    refine r_top (y := bI true) (congrArg bI (show (cne dc (lef pa mk i n) (bsS dc dl ge su (lef pa mk i n) d n) n d o) = true from hcan)) ?_
    refine r_if_eqB (x := true) (tgt := 64) hx hb dX4_edit_57 (by decide) (fun c57 => by cases c57) (fun c57 => ?_)
    refine lv_iconst (v := nI 1) hx hb dX4_edit_60 (by decide) ?_
    refine lv_goto (tgt := 65) hx hb dX4_edit_61 (by decide) ?_
    refine r_wVi (As := [.int (bI true), .int (bI true), .int (bI true)]) (rest := []) ⟨hx, hb, hml, hown, hts⟩ (cX4_goes_ok l D ct g n dc pa va dl ge su mk dp sq tc kp la true true true  H.size) (cwV 3 hts gX4_edit_X4_goes rfl rfl rfl (by decide +kernel) ⟨Nat.le_of_ble_eq_true rfl, Nat.le_of_ble_eq_true rfl⟩) hK hP hD hS hA [0, 1, 2, 3, 4, 5, 6, 7, 8, 9, 10, 11] rfl rfl rfl 0 4 rfl rfl rfl hl.1 rfl (Nat.le_of_ble_eq_true rfl) dX4_edit_65 ⟨Nat.le_of_ble_eq_true rfl, Nat.le_of_ble_eq_true rfl⟩ (fun H locs hP hD hS => ?_)
    have hP : va_P D vwCl (wM ct g n dc pa va dl ge su mk dp sq tc kp (gof true true true)) H := hP
    have hD : va_D A (wM ct g n dc pa va dl ge su mk dp sq tc kp (gof true true true)) := hD
    refine r_top (y := bI true) (congrArg bI (show (true && (true && true)) = true from rfl)) ?_
    refine r_if_neB (x := true) (tgt := 73) hx hb dX4_edit_68 (by decide) (fun c68 => ?_) (fun c68 => by cases c68)
    refine lv_aload_n hx hb dX4_edit_73 rfl (lv_at hl 1 rfl) ?_
    refine lv_iload_n hx hb dX4_edit_74 rfl (lv_at hl 2 rfl) ?_
    refine lv_iload_n hx hb dX4_edit_75 rfl (lv_at hl 3 rfl) ?_
    refine lv_iload_n hx hb dX4_edit_76 rfl (lv_at hl 4 rfl) ?_
    refine lv_iload hx hb dX4_edit_77 (lv_at hl 5 rfl) ?_
    refine lv_iconst (v := nI 0) hx hb dX4_edit_79 (by decide) ?_
    refine r_wVi (As := [.int (nI i), .int (nI d), .int (eP o), .int (nI v), .int (bI false)]) (rest := []) ⟨hx, hb, hml, hown, hts⟩ (cX4_adds_new l D ct g n dc pa va dl ge su mk dp sq tc kp (gof true true true) i d o (nI v) false (by first | assumption | omega) (by first | assumption | omega) (by first | assumption | omega) (by first | assumption | omega) (by first | assumption | omega) (by first | assumption | omega) (by first | assumption | omega) (by first | assumption | omega) (by first | assumption | omega) (by first | assumption | omega) H.size) (cwV 5 hts gX4_edit_X4_adds rfl rfl rfl (by decide +kernel) ⟨Nat.le_of_ble_eq_true rfl, Nat.le_of_ble_eq_true rfl⟩) hK hP hD hS hA [0, 1, 2, 3, 4, 5, 6, 7, 8, 9, 10, 11] rfl rfl rfl 0 4 rfl rfl rfl hl.1 rfl (Nat.le_of_ble_eq_true rfl) dX4_edit_80 ⟨Nat.le_of_ble_eq_true rfl, Nat.le_of_ble_eq_true rfl⟩ (fun H locs hP hD hS => ?_)
    have hP : va_P D vwCl (wM ct g (n + 1) (va_up dc n d) (va_up pa n o) (va_up va n (nI v)) (va_up dl n false) (va_up ge n (mkg ge o)) (va_up su n (mksu ge su o (nI v) false)) ((smS (va_up pa n o) (va_up ge n (mkg ge o)) dp i (n + 1) (va_up mk ((150 * i) + n) true) (n + 1)).2) dp (va_up sq i (sq i + nI 1)) (va_up tc ((4 * i) + d) (sq i + nI 1)) kp (gof true true true)) H := hP
    have hD : va_D A (wM ct g (n + 1) (va_up dc n d) (va_up pa n o) (va_up va n (nI v)) (va_up dl n false) (va_up ge n (mkg ge o)) (va_up su n (mksu ge su o (nI v) false)) ((smS (va_up pa n o) (va_up ge n (mkg ge o)) dp i (n + 1) (va_up mk ((150 * i) + n) true) (n + 1)).2) dp (va_up sq i (sq i + nI 1)) (va_up tc ((4 * i) + d) (sq i + nI 1)) kp (gof true true true)) := hD
    have e9 : (gof true true true) = (nI 0) := rfl
    have hP := (congrArg (fun z9 => va_P D vwCl (wM ct g (n + 1) (va_up dc n d) (va_up pa n o) (va_up va n (nI v)) (va_up dl n false) (va_up ge n (mkg ge o)) (va_up su n (mksu ge su o (nI v) false)) ((smS (va_up pa n o) (va_up ge n (mkg ge o)) dp i (n + 1) (va_up mk ((150 * i) + n) true) (n + 1)).2) dp (va_up sq i (sq i + nI 1)) (va_up tc ((4 * i) + d) (sq i + nI 1)) kp z9) H) e9).mp hP
    have hP : va_P D vwCl (wM ct g (n + 1) (va_up dc n d) (va_up pa n o) (va_up va n (nI v)) (va_up dl n false) (va_up ge n (mkg ge o)) (va_up su n (mksu ge su o (nI v) false)) ((smS (va_up pa n o) (va_up ge n (mkg ge o)) dp i (n + 1) (va_up mk ((150 * i) + n) true) (n + 1)).2) dp (va_up sq i (sq i + nI 1)) (va_up tc ((4 * i) + d) (sq i + nI 1)) kp (nI 0)) H := hP
    exact W.iret hx hb hr (fun t ht hW => ⟨⟨_, (), rfl, rfl, by show va_P D vwCl _ t.heap; rw [ht]; exact hP⟩, hS.F ht⟩) hS.2.2 dX4_edit_83
  refine lv_iload_n hx hb dX4_edit_0 rfl (lv_at hl 1 rfl) ?_
  refine r_cS (As := [.int (nI i)]) (rest := []) ⟨hx, hb, hml, hown, hts⟩ (cX4_isStore_ok l D ct (nI i) ) (va_cwS 1 hts gX4_edit_X4_isStore rfl rfl rfl (by decide +kernel) ⟨Nat.le_of_ble_eq_true rfl, Nat.le_of_ble_eq_true rfl⟩) hK va_Pnil rfl hl.1 rfl (Nat.le_of_ble_eq_true rfl) dX4_edit_1 ⟨Nat.le_of_ble_eq_true rfl, Nat.le_of_ble_eq_true rfl⟩ ?_
  refine r_top (y := bI true) (congrArg bI (show (inn (nI i) (nI 0) (nI 2)) = true from inn_t (by omega) (by decide))) ?_
  refine r_if_eqB (x := true) (tgt := 31) hx hb dX4_edit_4 (by decide) (fun c4 => by cases c4) (fun c4 => ?_)
  refine lv_iload_n hx hb dX4_edit_7 rfl (lv_at hl 2 rfl) ?_
  refine r_cS (As := [.int (nI d)]) (rest := []) ⟨hx, hb, hml, hown, hts⟩ (cX4_isDocument_ok l D ct (nI d) ) (va_cwS 1 hts gX4_edit_X4_isDocument rfl rfl rfl (by decide +kernel) ⟨Nat.le_of_ble_eq_true rfl, Nat.le_of_ble_eq_true rfl⟩) hK va_Pnil rfl hl.1 rfl (Nat.le_of_ble_eq_true rfl) dX4_edit_8 ⟨Nat.le_of_ble_eq_true rfl, Nat.le_of_ble_eq_true rfl⟩ ?_
  refine r_top (y := bI true) (congrArg bI (show (inn (nI d) (nI 0) (nI 3)) = true from inn_t (by omega) (by decide))) ?_
  refine r_if_eqB (x := true) (tgt := 31) hx hb dX4_edit_11 (by decide) (fun c11 => by cases c11) (fun c11 => ?_)
  refine lv_iload_n hx hb dX4_edit_14 rfl (lv_at hl 3 rfl) ?_
  refine lv_iconst (v := -1) hx hb dX4_edit_15 (by decide) ?_
  refine r_icmp_eqP hx hb (x := o) (by intro j9 h9; have := ho _ h9; omega) (tgt := 27) dX4_edit_16 (by decide) (fun c16 => ?_) (fun j16 c16 => ?_)
  · have hl := lv_re (f := fun z9 => [(0, .ref (g 0)), (1, .int (nI i)), (2, .int (nI d)), (3, .int z9), (4, .int (nI v))]) hl (show eP o = eP none from congrArg eP c16)
    refine lv_iconst (v := nI 1) hx hb dX4_edit_27 (by decide) ?_
    refine lv_goto (tgt := 32) hx hb dX4_edit_28 (by decide) ?_
    refine r_top (y := bI true) (congrArg bI (show true = true from rfl)) ?_
    have hl := lv_re (f := fun z9 => [(0, .ref (g 0)), (1, .int (nI i)), (2, .int (nI d)), (3, .int z9), (4, .int (nI v))]) hl (show eP none = eP o from congrArg eP (show none = o from c16.symm))
    exact jn32 _ _ ls hP hD hS (lv_sub hl [0, 1, 2, 3, 4] rfl)
  · have hl := lv_re (f := fun z9 => [(0, .ref (g 0)), (1, .int (nI i)), (2, .int (nI d)), (3, .int z9), (4, .int (nI v))]) hl (show eP o = nI j16 from congrArg eP c16)
    refine lv_aload_n hx hb dX4_edit_19 rfl (lv_at hl 0 rfl) ?_
    refine lv_iload_n hx hb dX4_edit_20 rfl (lv_at hl 3 rfl) ?_
    refine r_cV (As := [.int (nI j16)]) (rest := []) ⟨hx, hb, hml, hown, hts⟩ (cX4_isRevision_ok l D ct g n dc pa va dl ge su mk dp sq tc kp la (nI j16) ) (cwV 1 hts gX4_edit_X4_isRevision rfl rfl rfl (by decide +kernel) ⟨Nat.le_of_ble_eq_true rfl, Nat.le_of_ble_eq_true rfl⟩) hK (hP.sub (ws' := wM ct g n dc pa va dl ge su mk dp sq tc kp la) [0, 1, 2, 3, 4, 5, 6, 7, 8, 9, 10, 11] rfl) 0 4 rfl rfl rfl hl.1 rfl (Nat.le_of_ble_eq_true rfl) dX4_edit_21 ⟨Nat.le_of_ble_eq_true rfl, Nat.le_of_ble_eq_true rfl⟩ ?_
    refine r_top (y := bI true) (congrArg bI (show (inn (nI j16) (nI 0) (eP (prd n))) = true from inn_r (by have := ho _ c16; omega) hn)) ?_
    refine r_if_eqB (x := true) (tgt := 31) hx hb dX4_edit_24 (by decide) (fun c24 => by cases c24) (fun c24 => ?_)
    refine lv_iconst (v := nI 1) hx hb dX4_edit_27 (by decide) ?_
    refine lv_goto (tgt := 32) hx hb dX4_edit_28 (by decide) ?_
    refine r_top (y := bI true) (congrArg bI (show true = true from rfl)) ?_
    have hl := lv_re (f := fun z9 => [(0, .ref (g 0)), (1, .int (nI i)), (2, .int (nI d)), (3, .int z9), (4, .int (nI v))]) hl (show nI j16 = eP o from congrArg eP (show some j16 = o from c16.symm))
    exact jn32 _ _ ls hP hD hS (lv_sub hl [0, 1, 2, 3, 4] rfl)
set_option maxHeartbeats 8000000 in
set_option maxRecDepth 100000 in
theorem cX4_edit_bad1 (l : Launch) (D : va_G) (ct : Nat → ClassId) (g : Nat → Nat) (n : Nat) (dc : Nat → Nat) (pa : Nat → Option Nat) (va : Nat → Int32) (dl : Nat → Bool) (ge : Nat → Nat) (su : Nat → Int32) (mk : Nat → Bool) (dp : Nat → Int32) (sq : Nat → Int32) (tc : Nat → Int32) (kp : Nat → Int32) (la : Int32) (p0 : Int32) (p1 : Int32) (p2 : Int32) (p3 : Int32) (hbad : (inn p0 (nI 0) (nI 2) && (inn p1 (nI 0) (nI 3) && (decide (p2 = -1) || inn p2 (nI 0) (eP (prd n))))) = false) (sz : Nat) : Met l yX4_edit wsX4_edit ({ frames := 6, cells := 0, slots := 0, locals := 142 } : Room) (wrPc D ct [.ref (g 0), .int p0, .int p1, .int p2, .int p3] (wM ct g n dc pa va dl ge su mk dp sq tc kp la) sz) (wqI D (nI 0) (wM ct g n dc pa va dl ge su mk dp sq tc kp (nI 1)) (va_A (wM ct g n dc pa va dl ge su mk dp sq tc kp la) sz)) 0 0 (va_A (wM ct g n dc pa va dl ge su mk dp sq tc kp la) sz) := by
  refine Met.ofW (cc := cX4_edit) (maxL := 6) (ret := (some .int)) (by decide) rfl ?_
  intro p e s m args below meth c s₁ B hml hv
  obtain ⟨rfl, hsz, hP, hK, hD0⟩ := hv
  have hx := B.exec
  have hb := B.bytes
  have hr := B.returns
  have hts := atoms_spec (ws := wsX4_edit) B.pre
  have hown : s.vm.findClass RX4 = some m.cls := findClass_of_methodNamed B.named
  have hlocks := B.notSynchronized
  subst hsz
  have hD := hD0.self (sz := s.heap.size)
  generalize hAe : va_A (wM ct g n dc pa va dl ge su mk dp sq tc kp la) s.heap.size = A at hD ⊢
  have hA : ∀ q : Nat, s.heap.size ≤ q → A q := fun q h => by rw [← hAe]; exact Or.inr h
  have hS : va_S A s.heap s.heap [] := va_S.rf
  have hP : va_P D vwCl (wM ct g n dc pa va dl ge su mk dp sq tc kp la) s.heap := hP
  clear hAe hD0
  have hl := lv_entry ([.ref (g 0), .int p0, .int p1, .int p2, .int p3]) (n := 6) (Nat.le_of_ble_eq_true rfl)
  rw [lg_entry_eq]
  generalize (lg_sl ([.ref (g 0), .int p0, .int p1, .int p2, .int p3]) ++ List.replicate (6 - (lg_sl ([.ref (g 0), .int p0, .int p1, .int p2, .int p3])).length) Slot.unset).toArray = ls at hl ⊢
  have hl : lv_has ls 6 [(0, .ref (g 0)), (1, .int p0), (2, .int p1), (3, .int p2), (4, .int p3)] := hl
  have hH0 : s.heap.size ≤ s.heap.size := Nat.le_refl _
  have jn32 : ∀ (H : Heap) (locs : List Loc) (ls : Array Slot), va_P D vwCl (wM ct g n dc pa va dl ge su mk dp sq tc kp la) H → va_D A (wM ct g n dc pa va dl ge su mk dp sq tc kp la) → va_S A s.heap H locs → lv_has ls 6 [(0, .ref (g 0)), (1, .int p0), (2, .int p1), (3, .int p2), (4, .int p3)] → W p l e ({ frames := 6, cells := 0, slots := 0, locals := 142 } : Room) s m ([.ref (g 0), .int p0, .int p1, .int p2, .int p3] : List Value).toArray below meth c H locs 0 0 (MQ below (wqI D (nI 0) (wM ct g n dc pa va dl ge su mk dp sq tc kp (nI 1)) A) ([.ref (g 0), .int p0, .int p1, .int p2, .int p3] : List Value).toArray s 0 0 A) (F0 m 32 ls [.int (bI false)]) := by
    intro H locs ls hP hD hS hl
    refine lv_istore (lv' := [(5, .int (bI false)), (0, .ref (g 0)), (1, .int p0), (2, .int p1), (3, .int p2), (4, .int p3)]) hx hb dX4_edit_32 hl (by decide) rfl (fun ls hl => ?_)
    refine lv_aload_n hx hb dX4_edit_34 rfl (lv_at hl 1 rfl) ?_
    refine lv_iload hx hb dX4_edit_35 (lv_at hl 0 rfl) ?_
    refine lv_iload hx hb dX4_edit_37 (lv_at hl 5 rfl) ?_
    refine lv_iconst (v := nI 0) hx hb dX4_edit_39 (by decide) ?_
    refine lv_bipush (v := nI 99) hx hb dX4_edit_40 (by decide) ?_
    refine r_cS (As := [.int p3, .int (nI 0), .int (nI 99)]) (rest := [.int (bI false), .ref (g 0)]) ⟨hx, hb, hml, hown, hts⟩ (cX4_in_ok l D ct p3 (nI 0) (nI 99) ) (va_cwS 3 hts gX4_edit_X4_in rfl rfl rfl (by decide +kernel) ⟨Nat.le_of_ble_eq_true rfl, Nat.le_of_ble_eq_true rfl⟩) hK va_Pnil rfl hl.1 rfl (Nat.le_of_ble_eq_true rfl) dX4_edit_42 ⟨Nat.le_of_ble_eq_true rfl, Nat.le_of_ble_eq_true rfl⟩ ?_
    refine lv_iload hx hb dX4_edit_45 (lv_at hl 0 rfl) ?_
    refine r_if_eqB (x := false) (tgt := 64) hx hb dX4_edit_47 (by decide) (fun c47 => ?_) (fun c47 => by cases c47)
    refine lv_iconst (v := nI 0) hx hb dX4_edit_64 (by decide) ?_
    refine r_wVi (As := [.int (bI false), .int (bI (inn p3 (nI 0) (nI 99))), .int (bI false)]) (rest := []) ⟨hx, hb, hml, hown, hts⟩ (cX4_goes_ok l D ct g n dc pa va dl ge su mk dp sq tc kp la false (inn p3 (nI 0) (nI 99)) false  H.size) (cwV 3 hts gX4_edit_X4_goes rfl rfl rfl (by decide +kernel) ⟨Nat.le_of_ble_eq_true rfl, Nat.le_of_ble_eq_true rfl⟩) hK hP hD hS hA [0, 1, 2, 3, 4, 5, 6, 7, 8, 9, 10, 11] rfl rfl rfl 0 4 rfl rfl rfl hl.1 rfl (Nat.le_of_ble_eq_true rfl) dX4_edit_65 ⟨Nat.le_of_ble_eq_true rfl, Nat.le_of_ble_eq_true rfl⟩ (fun H locs hP hD hS => ?_)
    have hP : va_P D vwCl (wM ct g n dc pa va dl ge su mk dp sq tc kp (gof false (inn p3 (nI 0) (nI 99)) false)) H := hP
    have hD : va_D A (wM ct g n dc pa va dl ge su mk dp sq tc kp (gof false (inn p3 (nI 0) (nI 99)) false)) := hD
    refine r_top (y := bI false) (congrArg bI (show (false && ((inn p3 (nI 0) (nI 99)) && false)) = false from rfl)) ?_
    refine r_if_neB (x := false) (tgt := 73) hx hb dX4_edit_68 (by decide) (fun c68 => by cases c68) (fun c68 => ?_)
    refine lv_iconst (v := nI 0) hx hb dX4_edit_71 (by decide) ?_
    have e9 : (gof false (inn p3 (nI 0) (nI 99)) false) = (nI 1) := rfl
    have hP := (congrArg (fun z9 => va_P D vwCl (wM ct g n dc pa va dl ge su mk dp sq tc kp z9) H) e9).mp hP
    have hP : va_P D vwCl (wM ct g n dc pa va dl ge su mk dp sq tc kp (nI 1)) H := hP
    exact W.iret hx hb hr (fun t ht hW => ⟨⟨_, (), rfl, rfl, by show va_P D vwCl _ t.heap; rw [ht]; exact hP⟩, hS.F ht⟩) hS.2.2 dX4_edit_72
  refine lv_iload_n hx hb dX4_edit_0 rfl (lv_at hl 1 rfl) ?_
  refine r_cS (As := [.int p0]) (rest := []) ⟨hx, hb, hml, hown, hts⟩ (cX4_isStore_ok l D ct p0 ) (va_cwS 1 hts gX4_edit_X4_isStore rfl rfl rfl (by decide +kernel) ⟨Nat.le_of_ble_eq_true rfl, Nat.le_of_ble_eq_true rfl⟩) hK va_Pnil rfl hl.1 rfl (Nat.le_of_ble_eq_true rfl) dX4_edit_1 ⟨Nat.le_of_ble_eq_true rfl, Nat.le_of_ble_eq_true rfl⟩ ?_
  refine r_if_eqB (x := inn p0 (nI 0) (nI 2)) (tgt := 31) hx hb dX4_edit_4 (by decide) (fun c4 => ?_) (fun c4 => ?_)
  · refine lv_iconst (v := nI 0) hx hb dX4_edit_31 (by decide) ?_
    refine r_top (y := bI false) (congrArg bI (show false = false from by first | rfl | (exfalso; simp [c4] at hbad))) ?_
    exact jn32 _ _ ls hP hD hS (lv_sub hl [0, 1, 2, 3, 4] rfl)
  · refine lv_iload_n hx hb dX4_edit_7 rfl (lv_at hl 2 rfl) ?_
    refine r_cS (As := [.int p1]) (rest := []) ⟨hx, hb, hml, hown, hts⟩ (cX4_isDocument_ok l D ct p1 ) (va_cwS 1 hts gX4_edit_X4_isDocument rfl rfl rfl (by decide +kernel) ⟨Nat.le_of_ble_eq_true rfl, Nat.le_of_ble_eq_true rfl⟩) hK va_Pnil rfl hl.1 rfl (Nat.le_of_ble_eq_true rfl) dX4_edit_8 ⟨Nat.le_of_ble_eq_true rfl, Nat.le_of_ble_eq_true rfl⟩ ?_
    refine r_if_eqB (x := inn p1 (nI 0) (nI 3)) (tgt := 31) hx hb dX4_edit_11 (by decide) (fun c11 => ?_) (fun c11 => ?_)
    · refine lv_iconst (v := nI 0) hx hb dX4_edit_31 (by decide) ?_
      refine r_top (y := bI false) (congrArg bI (show false = false from by first | rfl | (exfalso; simp [c4, c11] at hbad))) ?_
      exact jn32 _ _ ls hP hD hS (lv_sub hl [0, 1, 2, 3, 4] rfl)
    · refine lv_iload_n hx hb dX4_edit_14 rfl (lv_at hl 3 rfl) ?_
      refine lv_iconst (v := -1) hx hb dX4_edit_15 (by decide) ?_
      refine lv_icmp_eq (x := p2) (y := -1) (tgt := 27) hx hb dX4_edit_16 (by decide) (fun c16 => ?_) (fun c16 => ?_)
      · refine lv_iconst (v := nI 1) hx hb dX4_edit_27 (by decide) ?_
        refine lv_goto (tgt := 32) hx hb dX4_edit_28 (by decide) ?_
        refine r_top (y := bI false) (congrArg bI (show true = false from by first | rfl | (exfalso; simp [c4, c11, c16] at hbad))) ?_
        exact jn32 _ _ ls hP hD hS (lv_sub hl [0, 1, 2, 3, 4] rfl)
      · refine lv_aload_n hx hb dX4_edit_19 rfl (lv_at hl 0 rfl) ?_
        refine lv_iload_n hx hb dX4_edit_20 rfl (lv_at hl 3 rfl) ?_
        refine r_cV (As := [.int p2]) (rest := []) ⟨hx, hb, hml, hown, hts⟩ (cX4_isRevision_ok l D ct g n dc pa va dl ge su mk dp sq tc kp la p2 ) (cwV 1 hts gX4_edit_X4_isRevision rfl rfl rfl (by decide +kernel) ⟨Nat.le_of_ble_eq_true rfl, Nat.le_of_ble_eq_true rfl⟩) hK (hP.sub (ws' := wM ct g n dc pa va dl ge su mk dp sq tc kp la) [0, 1, 2, 3, 4, 5, 6, 7, 8, 9, 10, 11] rfl) 0 4 rfl rfl rfl hl.1 rfl (Nat.le_of_ble_eq_true rfl) dX4_edit_21 ⟨Nat.le_of_ble_eq_true rfl, Nat.le_of_ble_eq_true rfl⟩ ?_
        refine r_if_eqB (x := inn p2 (nI 0) (eP (prd n))) (tgt := 31) hx hb dX4_edit_24 (by decide) (fun c24 => ?_) (fun c24 => ?_)
        · refine lv_iconst (v := nI 0) hx hb dX4_edit_31 (by decide) ?_
          refine r_top (y := bI false) (congrArg bI (show false = false from by first | rfl | (exfalso; simp [c4, c11, c16, c24] at hbad))) ?_
          exact jn32 _ _ ls hP hD hS (lv_sub hl [0, 1, 2, 3, 4] rfl)
        · refine lv_iconst (v := nI 1) hx hb dX4_edit_27 (by decide) ?_
          refine lv_goto (tgt := 32) hx hb dX4_edit_28 (by decide) ?_
          refine r_top (y := bI false) (congrArg bI (show true = false from by first | rfl | (exfalso; simp [c4, c11, c16, c24] at hbad))) ?_
          exact jn32 _ _ ls hP hD hS (lv_sub hl [0, 1, 2, 3, 4] rfl)
set_option maxHeartbeats 8000000 in
set_option maxRecDepth 100000 in
theorem cX4_edit_bad2 (l : Launch) (D : va_G) (ct : Nat → ClassId) (g : Nat → Nat) (n : Nat) (dc : Nat → Nat) (pa : Nat → Option Nat) (va : Nat → Int32) (dl : Nat → Bool) (ge : Nat → Nat) (su : Nat → Int32) (mk : Nat → Bool) (dp : Nat → Int32) (sq : Nat → Int32) (tc : Nat → Int32) (kp : Nat → Int32) (la : Int32) (i : Nat) (d : Nat) (o : Option Nat) (p3 : Int32) (hn : n ≤ 150) (hTd : ∀ k, dc k < 4) (hTg : ∀ k, ge k ≤ 150) (hTp : ∀ k j, k < n → pa k = some j → j < k) (hi : i < 3) (hd4 : d < 4) (ho : ∀ j, o = some j → j < n) (hbad : (inn p3 (nI 0) (nI 99) && cne dc (lef pa mk i n) (bsS dc dl ge su (lef pa mk i n) d n) n d o) = false) (sz : Nat) : Met l yX4_edit wsX4_edit ({ frames := 6, cells := 0, slots := 0, locals := 142 } : Room) (wrPc D ct [.ref (g 0), .int (nI i), .int (nI d), .int (eP o), .int p3] (wM ct g n dc pa va dl ge su mk dp sq tc kp la) sz) (wqI D (nI 0) (wM ct g n dc pa va dl ge su mk dp sq tc kp (gof true (inn p3 (nI 0) (nI 99)) (cne dc (lef pa mk i n) (bsS dc dl ge su (lef pa mk i n) d n) n d o))) (va_A (wM ct g n dc pa va dl ge su mk dp sq tc kp la) sz)) 0 0 (va_A (wM ct g n dc pa va dl ge su mk dp sq tc kp la) sz) := by
  refine Met.ofW (cc := cX4_edit) (maxL := 6) (ret := (some .int)) (by decide) rfl ?_
  intro p e s m args below meth c s₁ B hml hv
  obtain ⟨rfl, hsz, hP, hK, hD0⟩ := hv
  have hx := B.exec
  have hb := B.bytes
  have hr := B.returns
  have hts := atoms_spec (ws := wsX4_edit) B.pre
  have hown : s.vm.findClass RX4 = some m.cls := findClass_of_methodNamed B.named
  have hlocks := B.notSynchronized
  subst hsz
  have hD := hD0.self (sz := s.heap.size)
  generalize hAe : va_A (wM ct g n dc pa va dl ge su mk dp sq tc kp la) s.heap.size = A at hD ⊢
  have hA : ∀ q : Nat, s.heap.size ≤ q → A q := fun q h => by rw [← hAe]; exact Or.inr h
  have hS : va_S A s.heap s.heap [] := va_S.rf
  have hP : va_P D vwCl (wM ct g n dc pa va dl ge su mk dp sq tc kp la) s.heap := hP
  clear hAe hD0
  have hl := lv_entry ([.ref (g 0), .int (nI i), .int (nI d), .int (eP o), .int p3]) (n := 6) (Nat.le_of_ble_eq_true rfl)
  rw [lg_entry_eq]
  generalize (lg_sl ([.ref (g 0), .int (nI i), .int (nI d), .int (eP o), .int p3]) ++ List.replicate (6 - (lg_sl ([.ref (g 0), .int (nI i), .int (nI d), .int (eP o), .int p3])).length) Slot.unset).toArray = ls at hl ⊢
  have hl : lv_has ls 6 [(0, .ref (g 0)), (1, .int (nI i)), (2, .int (nI d)), (3, .int (eP o)), (4, .int p3)] := hl
  have hH0 : s.heap.size ≤ s.heap.size := Nat.le_refl _
  have jn32 : ∀ (H : Heap) (locs : List Loc) (ls : Array Slot), va_P D vwCl (wM ct g n dc pa va dl ge su mk dp sq tc kp la) H → va_D A (wM ct g n dc pa va dl ge su mk dp sq tc kp la) → va_S A s.heap H locs → lv_has ls 6 [(0, .ref (g 0)), (1, .int (nI i)), (2, .int (nI d)), (3, .int (eP o)), (4, .int p3)] → W p l e ({ frames := 6, cells := 0, slots := 0, locals := 142 } : Room) s m ([.ref (g 0), .int (nI i), .int (nI d), .int (eP o), .int p3] : List Value).toArray below meth c H locs 0 0 (MQ below (wqI D (nI 0) (wM ct g n dc pa va dl ge su mk dp sq tc kp (gof true (inn p3 (nI 0) (nI 99)) (cne dc (lef pa mk i n) (bsS dc dl ge su (lef pa mk i n) d n) n d o))) A) ([.ref (g 0), .int (nI i), .int (nI d), .int (eP o), .int p3] : List Value).toArray s 0 0 A) (F0 m 32 ls [.int (bI true)]) := by
    intro H locs ls hP hD hS hl
    refine lv_istore (lv' := [(5, .int (bI true)), (0, .ref (g 0)), (1, .int (nI i)), (2, .int (nI d)), (3, .int (eP o)), (4, .int p3)]) hx hb dX4_edit_32 hl (by decide) rfl (fun ls hl => ?_)
    refine lv_aload_n hx hb dX4_edit_34 rfl (lv_at hl 1 rfl) ?_
    refine lv_iload hx hb dX4_edit_35 (lv_at hl 0 rfl) ?_
    refine lv_iload hx hb dX4_edit_37 (lv_at hl 5 rfl) ?_
    refine lv_iconst (v := nI 0) hx hb dX4_edit_39 (by decide) ?_
    refine lv_bipush (v := nI 99) hx hb dX4_edit_40 (by decide) ?_
    refine r_cS (As := [.int p3, .int (nI 0), .int (nI 99)]) (rest := [.int (bI true), .ref (g 0)]) ⟨hx, hb, hml, hown, hts⟩ (cX4_in_ok l D ct p3 (nI 0) (nI 99) ) (va_cwS 3 hts gX4_edit_X4_in rfl rfl rfl (by decide +kernel) ⟨Nat.le_of_ble_eq_true rfl, Nat.le_of_ble_eq_true rfl⟩) hK va_Pnil rfl hl.1 rfl (Nat.le_of_ble_eq_true rfl) dX4_edit_42 ⟨Nat.le_of_ble_eq_true rfl, Nat.le_of_ble_eq_true rfl⟩ ?_
    refine lv_iload hx hb dX4_edit_45 (lv_at hl 0 rfl) ?_
    refine r_if_eqB (x := true) (tgt := 64) hx hb dX4_edit_47 (by decide) (fun c47 => by cases c47) (fun c47 => ?_)
    refine lv_aload_n hx hb dX4_edit_50 rfl (lv_at hl 1 rfl) ?_
    refine lv_iload_n hx hb dX4_edit_51 rfl (lv_at hl 2 rfl) ?_
    refine lv_iload_n hx hb dX4_edit_52 rfl (lv_at hl 3 rfl) ?_
    refine lv_iload_n hx hb dX4_edit_53 rfl (lv_at hl 4 rfl) ?_
    refine r_cV (As := [.int (nI i), .int (nI d), .int (eP o)]) (rest := [.int (bI (inn p3 (nI 0) (nI 99))), .int (bI true), .ref (g 0)]) ⟨hx, hb, hml, hown, hts⟩ (cX4_canEdit_ok l D ct g n dc pa va dl ge su mk dp sq tc kp la i d o (by first | assumption | omega) (by first | assumption | omega) (by first | assumption | omega) (by first | assumption | omega) (by first | assumption | omega) (by first | assumption | omega) (by first | assumption | omega)) (cwV 3 hts gX4_edit_X4_canEdit rfl rfl rfl (by decide +kernel) ⟨Nat.le_of_ble_eq_true rfl, Nat.le_of_ble_eq_true rfl⟩) hK (hP.sub (ws' := wM ct g n dc pa va dl ge su mk dp sq tc kp la) [0, 1, 2, 3, 4, 5, 6, 7, 8, 9, 10, 11] rfl) 0 4 rfl rfl rfl hl.1 rfl (Nat.le_of_ble_eq_true rfl) dX4_edit_54 ⟨Nat.le_of_ble_eq_true rfl, Nat.le_of_ble_eq_true rfl⟩ ?_
    refine r_if_eqB (x := cne dc (lef pa mk i n) (bsS dc dl ge su (lef pa mk i n) d n) n d o) (tgt := 64) hx hb dX4_edit_57 (by decide) (fun c57 => ?_) (fun c57 => ?_)
    · refine lv_iconst (v := nI 0) hx hb dX4_edit_64 (by decide) ?_
      refine r_wVi (As := [.int (bI true), .int (bI (inn p3 (nI 0) (nI 99))), .int (bI false)]) (rest := []) ⟨hx, hb, hml, hown, hts⟩ (cX4_goes_ok l D ct g n dc pa va dl ge su mk dp sq tc kp la true (inn p3 (nI 0) (nI 99)) false  H.size) (cwV 3 hts gX4_edit_X4_goes rfl rfl rfl (by decide +kernel) ⟨Nat.le_of_ble_eq_true rfl, Nat.le_of_ble_eq_true rfl⟩) hK hP hD hS hA [0, 1, 2, 3, 4, 5, 6, 7, 8, 9, 10, 11] rfl rfl rfl 0 4 rfl rfl rfl hl.1 rfl (Nat.le_of_ble_eq_true rfl) dX4_edit_65 ⟨Nat.le_of_ble_eq_true rfl, Nat.le_of_ble_eq_true rfl⟩ (fun H locs hP hD hS => ?_)
      have hP : va_P D vwCl (wM ct g n dc pa va dl ge su mk dp sq tc kp (gof true (inn p3 (nI 0) (nI 99)) false)) H := hP
      have hD : va_D A (wM ct g n dc pa va dl ge su mk dp sq tc kp (gof true (inn p3 (nI 0) (nI 99)) false)) := hD
      refine r_top (y := bI false) (congrArg bI (show (true && ((inn p3 (nI 0) (nI 99)) && false)) = false from by rw [c57] at hbad; simpa using hbad)) ?_
      refine r_if_neB (x := false) (tgt := 73) hx hb dX4_edit_68 (by decide) (fun c68 => by cases c68) (fun c68 => ?_)
      refine lv_iconst (v := nI 0) hx hb dX4_edit_71 (by decide) ?_
      have e9 : (gof true (inn p3 (nI 0) (nI 99)) false) = (gof true (inn p3 (nI 0) (nI 99)) (cne dc (lef pa mk i n) (bsS dc dl ge su (lef pa mk i n) d n) n d o)) := by rw [c57]
      have hP := (congrArg (fun z9 => va_P D vwCl (wM ct g n dc pa va dl ge su mk dp sq tc kp z9) H) e9).mp hP
      have hP : va_P D vwCl (wM ct g n dc pa va dl ge su mk dp sq tc kp (gof true (inn p3 (nI 0) (nI 99)) (cne dc (lef pa mk i n) (bsS dc dl ge su (lef pa mk i n) d n) n d o))) H := hP
      exact W.iret hx hb hr (fun t ht hW => ⟨⟨_, (), rfl, rfl, by show va_P D vwCl _ t.heap; rw [ht]; exact hP⟩, hS.F ht⟩) hS.2.2 dX4_edit_72
    · refine lv_iconst (v := nI 1) hx hb dX4_edit_60 (by decide) ?_
      refine lv_goto (tgt := 65) hx hb dX4_edit_61 (by decide) ?_
      refine r_wVi (As := [.int (bI true), .int (bI (inn p3 (nI 0) (nI 99))), .int (bI true)]) (rest := []) ⟨hx, hb, hml, hown, hts⟩ (cX4_goes_ok l D ct g n dc pa va dl ge su mk dp sq tc kp la true (inn p3 (nI 0) (nI 99)) true  H.size) (cwV 3 hts gX4_edit_X4_goes rfl rfl rfl (by decide +kernel) ⟨Nat.le_of_ble_eq_true rfl, Nat.le_of_ble_eq_true rfl⟩) hK hP hD hS hA [0, 1, 2, 3, 4, 5, 6, 7, 8, 9, 10, 11] rfl rfl rfl 0 4 rfl rfl rfl hl.1 rfl (Nat.le_of_ble_eq_true rfl) dX4_edit_65 ⟨Nat.le_of_ble_eq_true rfl, Nat.le_of_ble_eq_true rfl⟩ (fun H locs hP hD hS => ?_)
      have hP : va_P D vwCl (wM ct g n dc pa va dl ge su mk dp sq tc kp (gof true (inn p3 (nI 0) (nI 99)) true)) H := hP
      have hD : va_D A (wM ct g n dc pa va dl ge su mk dp sq tc kp (gof true (inn p3 (nI 0) (nI 99)) true)) := hD
      refine r_top (y := bI false) (congrArg bI (show (true && ((inn p3 (nI 0) (nI 99)) && true)) = false from by rw [c57] at hbad; simpa using hbad)) ?_
      refine r_if_neB (x := false) (tgt := 73) hx hb dX4_edit_68 (by decide) (fun c68 => by cases c68) (fun c68 => ?_)
      refine lv_iconst (v := nI 0) hx hb dX4_edit_71 (by decide) ?_
      have e9 : (gof true (inn p3 (nI 0) (nI 99)) true) = (gof true (inn p3 (nI 0) (nI 99)) (cne dc (lef pa mk i n) (bsS dc dl ge su (lef pa mk i n) d n) n d o)) := by rw [c57]
      have hP := (congrArg (fun z9 => va_P D vwCl (wM ct g n dc pa va dl ge su mk dp sq tc kp z9) H) e9).mp hP
      have hP : va_P D vwCl (wM ct g n dc pa va dl ge su mk dp sq tc kp (gof true (inn p3 (nI 0) (nI 99)) (cne dc (lef pa mk i n) (bsS dc dl ge su (lef pa mk i n) d n) n d o))) H := hP
      exact W.iret hx hb hr (fun t ht hW => ⟨⟨_, (), rfl, rfl, by show va_P D vwCl _ t.heap; rw [ht]; exact hP⟩, hS.F ht⟩) hS.2.2 dX4_edit_72
  refine lv_iload_n hx hb dX4_edit_0 rfl (lv_at hl 1 rfl) ?_
  refine r_cS (As := [.int (nI i)]) (rest := []) ⟨hx, hb, hml, hown, hts⟩ (cX4_isStore_ok l D ct (nI i) ) (va_cwS 1 hts gX4_edit_X4_isStore rfl rfl rfl (by decide +kernel) ⟨Nat.le_of_ble_eq_true rfl, Nat.le_of_ble_eq_true rfl⟩) hK va_Pnil rfl hl.1 rfl (Nat.le_of_ble_eq_true rfl) dX4_edit_1 ⟨Nat.le_of_ble_eq_true rfl, Nat.le_of_ble_eq_true rfl⟩ ?_
  refine r_top (y := bI true) (congrArg bI (show (inn (nI i) (nI 0) (nI 2)) = true from inn_t (by omega) (by decide))) ?_
  refine r_if_eqB (x := true) (tgt := 31) hx hb dX4_edit_4 (by decide) (fun c4 => by cases c4) (fun c4 => ?_)
  refine lv_iload_n hx hb dX4_edit_7 rfl (lv_at hl 2 rfl) ?_
  refine r_cS (As := [.int (nI d)]) (rest := []) ⟨hx, hb, hml, hown, hts⟩ (cX4_isDocument_ok l D ct (nI d) ) (va_cwS 1 hts gX4_edit_X4_isDocument rfl rfl rfl (by decide +kernel) ⟨Nat.le_of_ble_eq_true rfl, Nat.le_of_ble_eq_true rfl⟩) hK va_Pnil rfl hl.1 rfl (Nat.le_of_ble_eq_true rfl) dX4_edit_8 ⟨Nat.le_of_ble_eq_true rfl, Nat.le_of_ble_eq_true rfl⟩ ?_
  refine r_top (y := bI true) (congrArg bI (show (inn (nI d) (nI 0) (nI 3)) = true from inn_t (by omega) (by decide))) ?_
  refine r_if_eqB (x := true) (tgt := 31) hx hb dX4_edit_11 (by decide) (fun c11 => by cases c11) (fun c11 => ?_)
  refine lv_iload_n hx hb dX4_edit_14 rfl (lv_at hl 3 rfl) ?_
  refine lv_iconst (v := -1) hx hb dX4_edit_15 (by decide) ?_
  refine r_icmp_eqP hx hb (x := o) (by intro j9 h9; have := ho _ h9; omega) (tgt := 27) dX4_edit_16 (by decide) (fun c16 => ?_) (fun j16 c16 => ?_)
  · have hl := lv_re (f := fun z9 => [(0, .ref (g 0)), (1, .int (nI i)), (2, .int (nI d)), (3, .int z9), (4, .int p3)]) hl (show eP o = eP none from congrArg eP c16)
    refine lv_iconst (v := nI 1) hx hb dX4_edit_27 (by decide) ?_
    refine lv_goto (tgt := 32) hx hb dX4_edit_28 (by decide) ?_
    refine r_top (y := bI true) (congrArg bI (show true = true from rfl)) ?_
    have hl := lv_re (f := fun z9 => [(0, .ref (g 0)), (1, .int (nI i)), (2, .int (nI d)), (3, .int z9), (4, .int p3)]) hl (show eP none = eP o from congrArg eP (show none = o from c16.symm))
    exact jn32 _ _ ls hP hD hS (lv_sub hl [0, 1, 2, 3, 4] rfl)
  · have hl := lv_re (f := fun z9 => [(0, .ref (g 0)), (1, .int (nI i)), (2, .int (nI d)), (3, .int z9), (4, .int p3)]) hl (show eP o = nI j16 from congrArg eP c16)
    refine lv_aload_n hx hb dX4_edit_19 rfl (lv_at hl 0 rfl) ?_
    refine lv_iload_n hx hb dX4_edit_20 rfl (lv_at hl 3 rfl) ?_
    refine r_cV (As := [.int (nI j16)]) (rest := []) ⟨hx, hb, hml, hown, hts⟩ (cX4_isRevision_ok l D ct g n dc pa va dl ge su mk dp sq tc kp la (nI j16) ) (cwV 1 hts gX4_edit_X4_isRevision rfl rfl rfl (by decide +kernel) ⟨Nat.le_of_ble_eq_true rfl, Nat.le_of_ble_eq_true rfl⟩) hK (hP.sub (ws' := wM ct g n dc pa va dl ge su mk dp sq tc kp la) [0, 1, 2, 3, 4, 5, 6, 7, 8, 9, 10, 11] rfl) 0 4 rfl rfl rfl hl.1 rfl (Nat.le_of_ble_eq_true rfl) dX4_edit_21 ⟨Nat.le_of_ble_eq_true rfl, Nat.le_of_ble_eq_true rfl⟩ ?_
    refine r_top (y := bI true) (congrArg bI (show (inn (nI j16) (nI 0) (eP (prd n))) = true from inn_r (by have := ho _ c16; omega) hn)) ?_
    refine r_if_eqB (x := true) (tgt := 31) hx hb dX4_edit_24 (by decide) (fun c24 => by cases c24) (fun c24 => ?_)
    refine lv_iconst (v := nI 1) hx hb dX4_edit_27 (by decide) ?_
    refine lv_goto (tgt := 32) hx hb dX4_edit_28 (by decide) ?_
    refine r_top (y := bI true) (congrArg bI (show true = true from rfl)) ?_
    have hl := lv_re (f := fun z9 => [(0, .ref (g 0)), (1, .int (nI i)), (2, .int (nI d)), (3, .int z9), (4, .int p3)]) hl (show nI j16 = eP o from congrArg eP (show some j16 = o from c16.symm))
    exact jn32 _ _ ls hP hD hS (lv_sub hl [0, 1, 2, 3, 4] rfl)
set_option maxHeartbeats 8000000 in
set_option maxRecDepth 100000 in
theorem cX4_delete_found (l : Launch) (D : va_G) (ct : Nat → ClassId) (g : Nat → Nat) (n : Nat) (dc : Nat → Nat) (pa : Nat → Option Nat) (va : Nat → Int32) (dl : Nat → Bool) (ge : Nat → Nat) (su : Nat → Int32) (mk : Nat → Bool) (dp : Nat → Int32) (sq : Nat → Int32) (tc : Nat → Int32) (kp : Nat → Int32) (la : Int32) (i : Nat) (d : Nat) (r : Nat) (j : Nat) (hn : n ≤ 150) (hTd : ∀ k, dc k < 4) (hTg : ∀ k, ge k ≤ 150) (hTp : ∀ k j, k < n → pa k = some j → j < k) (hi : i < 3) (hd4 : d < 4) (hrn : r < n) (hcan : cne dc (lef pa mk i n) (bsS dc dl ge su (lef pa mk i n) d n) n d (some r) = true) (hdl : dl r = false) (hf : ffd (fnd dc pa va dl d (some r) (nI 0) true) n = some j) (hj : j < n) (hm : mk ((150 * i) + j) = false) (sz : Nat) : Met l yX4_delete wsX4_delete ({ frames := 6, cells := 0, slots := 0, locals := 142 } : Room) (wrPc D ct [.ref (g 0), .int (nI i), .int (nI d), .int (nI r)] (wM ct g n dc pa va dl ge su mk dp sq tc kp la) sz) (wqI D (nI j) (wM ct g n dc pa va dl ge su ((smS pa ge dp i n (va_up mk ((150 * i) + j) true) n).2) dp (va_up sq i (sq i + nI 1)) (va_up tc ((4 * i) + d) (sq i + nI 1)) kp (nI 0)) (va_A (wM ct g n dc pa va dl ge su mk dp sq tc kp la) sz)) 0 0 (va_A (wM ct g n dc pa va dl ge su mk dp sq tc kp la) sz) := by
  refine Met.ofW (cc := cX4_delete) (maxL := 5) (ret := (some .int)) (by decide) rfl ?_
  intro p e s m args below meth c s₁ B hml hv
  obtain ⟨rfl, hsz, hP, hK, hD0⟩ := hv
  have hx := B.exec
  have hb := B.bytes
  have hr := B.returns
  have hts := atoms_spec (ws := wsX4_delete) B.pre
  have hown : s.vm.findClass RX4 = some m.cls := findClass_of_methodNamed B.named
  have hlocks := B.notSynchronized
  subst hsz
  have hD := hD0.self (sz := s.heap.size)
  generalize hAe : va_A (wM ct g n dc pa va dl ge su mk dp sq tc kp la) s.heap.size = A at hD ⊢
  have hA : ∀ q : Nat, s.heap.size ≤ q → A q := fun q h => by rw [← hAe]; exact Or.inr h
  have hS : va_S A s.heap s.heap [] := va_S.rf
  have hP : va_P D vwCl (wM ct g n dc pa va dl ge su mk dp sq tc kp la) s.heap := hP
  clear hAe hD0
  have hl := lv_entry ([.ref (g 0), .int (nI i), .int (nI d), .int (nI r)]) (n := 5) (Nat.le_of_ble_eq_true rfl)
  rw [lg_entry_eq]
  generalize (lg_sl ([.ref (g 0), .int (nI i), .int (nI d), .int (nI r)]) ++ List.replicate (5 - (lg_sl ([.ref (g 0), .int (nI i), .int (nI d), .int (nI r)])).length) Slot.unset).toArray = ls at hl ⊢
  have hl : lv_has ls 5 [(0, .ref (g 0)), (1, .int (nI i)), (2, .int (nI d)), (3, .int (nI r))] := hl
  have hH0 : s.heap.size ≤ s.heap.size := Nat.le_refl _
  refine lv_iload_n hx hb dX4_delete_0 rfl (lv_at hl 1 rfl) ?_
  refine r_cS (As := [.int (nI i)]) (rest := []) ⟨hx, hb, hml, hown, hts⟩ (cX4_isStore_ok l D ct (nI i) ) (va_cwS 1 hts gX4_delete_X4_isStore rfl rfl rfl (by decide +kernel) ⟨Nat.le_of_ble_eq_true rfl, Nat.le_of_ble_eq_true rfl⟩) hK va_Pnil rfl hl.1 rfl (Nat.le_of_ble_eq_true rfl) dX4_delete_1 ⟨Nat.le_of_ble_eq_true rfl, Nat.le_of_ble_eq_true rfl⟩ ?_
  refine r_top (y := bI true) (congrArg bI (show (inn (nI i) (nI 0) (nI 2)) = true from inn_t (by omega) (by decide))) ?_
  refine r_if_eqB (x := true) (tgt := 26) hx hb dX4_delete_4 (by decide) (fun c4 => by cases c4) (fun c4 => ?_)
  refine lv_iload_n hx hb dX4_delete_7 rfl (lv_at hl 2 rfl) ?_
  refine r_cS (As := [.int (nI d)]) (rest := []) ⟨hx, hb, hml, hown, hts⟩ (cX4_isDocument_ok l D ct (nI d) ) (va_cwS 1 hts gX4_delete_X4_isDocument rfl rfl rfl (by decide +kernel) ⟨Nat.le_of_ble_eq_true rfl, Nat.le_of_ble_eq_true rfl⟩) hK va_Pnil rfl hl.1 rfl (Nat.le_of_ble_eq_true rfl) dX4_delete_8 ⟨Nat.le_of_ble_eq_true rfl, Nat.le_of_ble_eq_true rfl⟩ ?_
  refine r_top (y := bI true) (congrArg bI (show (inn (nI d) (nI 0) (nI 3)) = true from inn_t (by omega) (by decide))) ?_
  refine r_if_eqB (x := true) (tgt := 26) hx hb dX4_delete_11 (by decide) (fun c11 => by cases c11) (fun c11 => ?_)
  refine lv_aload_n hx hb dX4_delete_14 rfl (lv_at hl 0 rfl) ?_
  refine lv_iload_n hx hb dX4_delete_15 rfl (lv_at hl 3 rfl) ?_
  refine r_cV (As := [.int (nI r)]) (rest := []) ⟨hx, hb, hml, hown, hts⟩ (cX4_isRevision_ok l D ct g n dc pa va dl ge su mk dp sq tc kp la (nI r) ) (cwV 1 hts gX4_delete_X4_isRevision rfl rfl rfl (by decide +kernel) ⟨Nat.le_of_ble_eq_true rfl, Nat.le_of_ble_eq_true rfl⟩) hK (hP.sub (ws' := wM ct g n dc pa va dl ge su mk dp sq tc kp la) [0, 1, 2, 3, 4, 5, 6, 7, 8, 9, 10, 11] rfl) 0 4 rfl rfl rfl hl.1 rfl (Nat.le_of_ble_eq_true rfl) dX4_delete_16 ⟨Nat.le_of_ble_eq_true rfl, Nat.le_of_ble_eq_true rfl⟩ ?_
  refine r_top (y := bI true) (congrArg bI (show (inn (nI r) (nI 0) (eP (prd n))) = true from inn_r hrn hn)) ?_
  refine r_if_eqB (x := true) (tgt := 26) hx hb dX4_delete_19 (by decide) (fun c19 => by cases c19) (fun c19 => ?_)
  refine lv_iconst (v := nI 1) hx hb dX4_delete_22 (by decide) ?_
  refine lv_goto (tgt := 27) hx hb dX4_delete_23 (by decide) ?_
  refine lv_istore (lv' := [(4, .int (nI 1)), (0, .ref (g 0)), (1, .int (nI i)), (2, .int (nI d)), (3, .int (nI r))]) hx hb dX4_delete_27 hl (by decide) rfl (fun ls hl => ?_)
  refine lv_aload_n hx hb dX4_delete_29 rfl (lv_at hl 1 rfl) ?_
  refine lv_iload hx hb dX4_delete_30 (lv_at hl 0 rfl) ?_
  refine lv_iload hx hb dX4_delete_32 (lv_at hl 0 rfl) ?_
  refine r_if_eqB (x := true) (tgt := 60) hx hb dX4_delete_34 (by decide) (fun c34 => by cases c34) (fun c34 => ?_)
  refine lv_aload_n hx hb dX4_delete_37 rfl (lv_at hl 1 rfl) ?_
  refine lv_iload_n hx hb dX4_delete_38 rfl (lv_at hl 2 rfl) ?_
  refine lv_iload_n hx hb dX4_delete_39 rfl (lv_at hl 3 rfl) ?_
  refine lv_iload_n hx hb dX4_delete_40 rfl (lv_at hl 4 rfl) ?_
  refine r_cV (As := [.int (nI i), .int (nI d), .int (eP (some r))]) (rest := [.int (nI 1), .ref (g 0)]) ⟨hx, hb, hml, hown, hts⟩ (cX4_canEdit_ok l D ct g n dc pa va dl ge su mk dp sq tc kp la i d (some r) (by first | assumption | omega) (by first | assumption | omega) (by first | assumption | omega) (by first | assumption | omega) (by first | assumption | omega) (by first | assumption | omega) (by intro j9 h9; cases h9; exact hrn)) (cwV 3 hts gX4_delete_X4_canEdit rfl rfl rfl (by decide +kernel) ⟨Nat.le_of_ble_eq_true rfl, Nat.le_of_ble_eq_true rfl⟩) hK (hP.sub (ws' := wM ct g n dc pa va dl ge su mk dp sq tc kp la) [0, 1, 2, 3, 4, 5, 6, 7, 8, 9, 10, 11] rfl) 0 4 rfl rfl rfl hl.1 rfl (Nat.le_of_ble_eq_true rfl) dX4_delete_41 ⟨Nat.le_of_ble_eq_true rfl, Nat.le_of_ble_eq_true rfl⟩ ?_
  refine r_top (y := bI true) (congrArg bI (show (cne dc (lef pa mk i n) (bsS dc dl ge su (lef pa mk i n) d n) n d (some r)) = true from hcan)) ?_
  refine r_if_eqB (x := true) (tgt := 60) hx hb dX4_delete_44 (by decide) (fun c44 => by cases c44) (fun c44 => ?_)
  refine lv_aload_n hx hb dX4_delete_47 rfl (lv_at hl 1 rfl) ?_
  refine va_get (D := D) (ci := 4) (v := .ref (g 4)) (C := RX4) (T := TX4) (N := 13) hx hb hts (fun _ h => List.mem_cons_of_mem _ (List.mem_append_right _ h)) hown hK.1 hP 0 rfl rfl 3 (by decide) (hts (.fieldLink RX4 19 "RevisionStoresModel" "deletions" "[Z") (List.mem_of_getElem? (i := 1) rfl)) (fun _ h9 => h9) rfl dX4_delete_48 ?_
  refine lv_iload_n hx hb dX4_delete_51 rfl (lv_at hl 4 rfl) ?_
  refine r_zald (j := r) (v := bI (dl r)) hx hb hK.1 hP 4 1 rfl rfl (by omega) (by first | decide | omega) rfl dX4_delete_52 ?_
  refine r_top (y := bI false) (congrArg bI (show (dl r) = false from hdl)) ?_
  refine r_if_neB (x := false) (tgt := 60) hx hb dX4_delete_53 (by decide) (fun c53 => by cases c53) (fun c53 => ?_)
  refine lv_iconst (v := nI 1) hx hb dX4_delete_56 (by decide) ?_
  refine lv_goto (tgt := 61) hx hb dX4_delete_57 (by decide) ?_
  refine lv_iconst (v := nI 1) hx hb dX4_delete_61 (by decide) ?_
  refine r_wVi (As := [.int (bI true), .int (bI true), .int (bI true)]) (rest := []) ⟨hx, hb, hml, hown, hts⟩ (cX4_goes_ok l D ct g n dc pa va dl ge su mk dp sq tc kp la true true true  s.heap.size) (cwV 3 hts gX4_delete_X4_goes rfl rfl rfl (by decide +kernel) ⟨Nat.le_of_ble_eq_true rfl, Nat.le_of_ble_eq_true rfl⟩) hK hP hD hS hA [0, 1, 2, 3, 4, 5, 6, 7, 8, 9, 10, 11] rfl rfl rfl 0 4 rfl rfl rfl hl.1 rfl (Nat.le_of_ble_eq_true rfl) dX4_delete_62 ⟨Nat.le_of_ble_eq_true rfl, Nat.le_of_ble_eq_true rfl⟩ (fun H locs hP hD hS => ?_)
  have hP : va_P D vwCl (wM ct g n dc pa va dl ge su mk dp sq tc kp (gof true true true)) H := hP
  have hD : va_D A (wM ct g n dc pa va dl ge su mk dp sq tc kp (gof true true true)) := hD
  refine r_top (y := bI true) (congrArg bI (show (true && (true && true)) = true from rfl)) ?_
  refine r_if_neB (x := true) (tgt := 70) hx hb dX4_delete_65 (by decide) (fun c65 => ?_) (fun c65 => by cases c65)
  refine lv_aload_n hx hb dX4_delete_70 rfl (lv_at hl 1 rfl) ?_
  refine lv_iload_n hx hb dX4_delete_71 rfl (lv_at hl 2 rfl) ?_
  refine lv_iload_n hx hb dX4_delete_72 rfl (lv_at hl 3 rfl) ?_
  refine lv_iload_n hx hb dX4_delete_73 rfl (lv_at hl 4 rfl) ?_
  refine lv_iconst (v := nI 0) hx hb dX4_delete_74 (by decide) ?_
  refine lv_iconst (v := nI 1) hx hb dX4_delete_75 (by decide) ?_
  refine r_wVi (As := [.int (nI i), .int (nI d), .int (eP (some r)), .int (nI 0), .int (bI true)]) (rest := []) ⟨hx, hb, hml, hown, hts⟩ (cX4_adds_found l D ct g n dc pa va dl ge su mk dp sq tc kp (gof true true true) i d (some r) (nI 0) true j (by first | assumption | omega) (by first | assumption | omega) (by first | assumption | omega) (by first | assumption | omega) (by first | assumption | omega) (by first | assumption | omega) (by intro j9 h9; cases h9; exact hrn) (by first | assumption | omega) (by first | assumption | omega) (by first | assumption | omega) H.size) (cwV 5 hts gX4_delete_X4_adds rfl rfl rfl (by decide +kernel) ⟨Nat.le_of_ble_eq_true rfl, Nat.le_of_ble_eq_true rfl⟩) hK hP hD hS hA [0, 1, 2, 3, 4, 5, 6, 7, 8, 9, 10, 11] rfl rfl rfl 0 4 rfl rfl rfl hl.1 rfl (Nat.le_of_ble_eq_true rfl) dX4_delete_76 ⟨Nat.le_of_ble_eq_true rfl, Nat.le_of_ble_eq_true rfl⟩ (fun H locs hP hD hS => ?_)
  have hP : va_P D vwCl (wM ct g n dc pa va dl ge su ((smS pa ge dp i n (va_up mk ((150 * i) + j) true) n).2) dp (va_up sq i (sq i + nI 1)) (va_up tc ((4 * i) + d) (sq i + nI 1)) kp (gof true true true)) H := hP
  have hD : va_D A (wM ct g n dc pa va dl ge su ((smS pa ge dp i n (va_up mk ((150 * i) + j) true) n).2) dp (va_up sq i (sq i + nI 1)) (va_up tc ((4 * i) + d) (sq i + nI 1)) kp (gof true true true)) := hD
  have e9 : (gof true true true) = (nI 0) := rfl
  have hP := (congrArg (fun z9 => va_P D vwCl (wM ct g n dc pa va dl ge su ((smS pa ge dp i n (va_up mk ((150 * i) + j) true) n).2) dp (va_up sq i (sq i + nI 1)) (va_up tc ((4 * i) + d) (sq i + nI 1)) kp z9) H) e9).mp hP
  have hP : va_P D vwCl (wM ct g n dc pa va dl ge su ((smS pa ge dp i n (va_up mk ((150 * i) + j) true) n).2) dp (va_up sq i (sq i + nI 1)) (va_up tc ((4 * i) + d) (sq i + nI 1)) kp (nI 0)) H := hP
  exact W.iret hx hb hr (fun t ht hW => ⟨⟨_, (), rfl, rfl, by show va_P D vwCl _ t.heap; rw [ht]; exact hP⟩, hS.F ht⟩) hS.2.2 dX4_delete_79
set_option maxHeartbeats 8000000 in
set_option maxRecDepth 100000 in
theorem cX4_delete_new (l : Launch) (D : va_G) (ct : Nat → ClassId) (g : Nat → Nat) (n : Nat) (dc : Nat → Nat) (pa : Nat → Option Nat) (va : Nat → Int32) (dl : Nat → Bool) (ge : Nat → Nat) (su : Nat → Int32) (mk : Nat → Bool) (dp : Nat → Int32) (sq : Nat → Int32) (tc : Nat → Int32) (kp : Nat → Int32) (la : Int32) (i : Nat) (d : Nat) (r : Nat) (hn9 : n < 150) (hn : n ≤ 150) (hTd : ∀ k, dc k < 4) (hTg : ∀ k, ge k ≤ 150) (hTp : ∀ k j, k < n → pa k = some j → j < k) (hi : i < 3) (hd4 : d < 4) (hrn : r < n) (hcan : cne dc (lef pa mk i n) (bsS dc dl ge su (lef pa mk i n) d n) n d (some r) = true) (hdl : dl r = false) (hg1 : mkg ge (some r) ≤ 150) (hf : ffd (fnd dc pa va dl d (some r) (nI 0) true) n = none) (hm : mk ((150 * i) + n) = false) (sz : Nat) : Met l yX4_delete wsX4_delete ({ frames := 6, cells := 0, slots := 0, locals := 142 } : Room) (wrPc D ct [.ref (g 0), .int (nI i), .int (nI d), .int (nI r)] (wM ct g n dc pa va dl ge su mk dp sq tc kp la) sz) (wqI D (nI n) (wM ct g (n + 1) (va_up dc n d) (va_up pa n (some r)) (va_up va n (nI 0)) (va_up dl n true) (va_up ge n (mkg ge (some r))) (va_up su n (mksu ge su (some r) (nI 0) true)) ((smS (va_up pa n (some r)) (va_up ge n (mkg ge (some r))) dp i (n + 1) (va_up mk ((150 * i) + n) true) (n + 1)).2) dp (va_up sq i (sq i + nI 1)) (va_up tc ((4 * i) + d) (sq i + nI 1)) kp (nI 0)) (va_A (wM ct g n dc pa va dl ge su mk dp sq tc kp la) sz)) 0 0 (va_A (wM ct g n dc pa va dl ge su mk dp sq tc kp la) sz) := by
  refine Met.ofW (cc := cX4_delete) (maxL := 5) (ret := (some .int)) (by decide) rfl ?_
  intro p e s m args below meth c s₁ B hml hv
  obtain ⟨rfl, hsz, hP, hK, hD0⟩ := hv
  have hx := B.exec
  have hb := B.bytes
  have hr := B.returns
  have hts := atoms_spec (ws := wsX4_delete) B.pre
  have hown : s.vm.findClass RX4 = some m.cls := findClass_of_methodNamed B.named
  have hlocks := B.notSynchronized
  subst hsz
  have hD := hD0.self (sz := s.heap.size)
  generalize hAe : va_A (wM ct g n dc pa va dl ge su mk dp sq tc kp la) s.heap.size = A at hD ⊢
  have hA : ∀ q : Nat, s.heap.size ≤ q → A q := fun q h => by rw [← hAe]; exact Or.inr h
  have hS : va_S A s.heap s.heap [] := va_S.rf
  have hP : va_P D vwCl (wM ct g n dc pa va dl ge su mk dp sq tc kp la) s.heap := hP
  clear hAe hD0
  have hl := lv_entry ([.ref (g 0), .int (nI i), .int (nI d), .int (nI r)]) (n := 5) (Nat.le_of_ble_eq_true rfl)
  rw [lg_entry_eq]
  generalize (lg_sl ([.ref (g 0), .int (nI i), .int (nI d), .int (nI r)]) ++ List.replicate (5 - (lg_sl ([.ref (g 0), .int (nI i), .int (nI d), .int (nI r)])).length) Slot.unset).toArray = ls at hl ⊢
  have hl : lv_has ls 5 [(0, .ref (g 0)), (1, .int (nI i)), (2, .int (nI d)), (3, .int (nI r))] := hl
  have hH0 : s.heap.size ≤ s.heap.size := Nat.le_refl _
  refine lv_iload_n hx hb dX4_delete_0 rfl (lv_at hl 1 rfl) ?_
  refine r_cS (As := [.int (nI i)]) (rest := []) ⟨hx, hb, hml, hown, hts⟩ (cX4_isStore_ok l D ct (nI i) ) (va_cwS 1 hts gX4_delete_X4_isStore rfl rfl rfl (by decide +kernel) ⟨Nat.le_of_ble_eq_true rfl, Nat.le_of_ble_eq_true rfl⟩) hK va_Pnil rfl hl.1 rfl (Nat.le_of_ble_eq_true rfl) dX4_delete_1 ⟨Nat.le_of_ble_eq_true rfl, Nat.le_of_ble_eq_true rfl⟩ ?_
  refine r_top (y := bI true) (congrArg bI (show (inn (nI i) (nI 0) (nI 2)) = true from inn_t (by omega) (by decide))) ?_
  refine r_if_eqB (x := true) (tgt := 26) hx hb dX4_delete_4 (by decide) (fun c4 => by cases c4) (fun c4 => ?_)
  refine lv_iload_n hx hb dX4_delete_7 rfl (lv_at hl 2 rfl) ?_
  refine r_cS (As := [.int (nI d)]) (rest := []) ⟨hx, hb, hml, hown, hts⟩ (cX4_isDocument_ok l D ct (nI d) ) (va_cwS 1 hts gX4_delete_X4_isDocument rfl rfl rfl (by decide +kernel) ⟨Nat.le_of_ble_eq_true rfl, Nat.le_of_ble_eq_true rfl⟩) hK va_Pnil rfl hl.1 rfl (Nat.le_of_ble_eq_true rfl) dX4_delete_8 ⟨Nat.le_of_ble_eq_true rfl, Nat.le_of_ble_eq_true rfl⟩ ?_
  refine r_top (y := bI true) (congrArg bI (show (inn (nI d) (nI 0) (nI 3)) = true from inn_t (by omega) (by decide))) ?_
  refine r_if_eqB (x := true) (tgt := 26) hx hb dX4_delete_11 (by decide) (fun c11 => by cases c11) (fun c11 => ?_)
  refine lv_aload_n hx hb dX4_delete_14 rfl (lv_at hl 0 rfl) ?_
  refine lv_iload_n hx hb dX4_delete_15 rfl (lv_at hl 3 rfl) ?_
  refine r_cV (As := [.int (nI r)]) (rest := []) ⟨hx, hb, hml, hown, hts⟩ (cX4_isRevision_ok l D ct g n dc pa va dl ge su mk dp sq tc kp la (nI r) ) (cwV 1 hts gX4_delete_X4_isRevision rfl rfl rfl (by decide +kernel) ⟨Nat.le_of_ble_eq_true rfl, Nat.le_of_ble_eq_true rfl⟩) hK (hP.sub (ws' := wM ct g n dc pa va dl ge su mk dp sq tc kp la) [0, 1, 2, 3, 4, 5, 6, 7, 8, 9, 10, 11] rfl) 0 4 rfl rfl rfl hl.1 rfl (Nat.le_of_ble_eq_true rfl) dX4_delete_16 ⟨Nat.le_of_ble_eq_true rfl, Nat.le_of_ble_eq_true rfl⟩ ?_
  refine r_top (y := bI true) (congrArg bI (show (inn (nI r) (nI 0) (eP (prd n))) = true from inn_r hrn hn)) ?_
  refine r_if_eqB (x := true) (tgt := 26) hx hb dX4_delete_19 (by decide) (fun c19 => by cases c19) (fun c19 => ?_)
  refine lv_iconst (v := nI 1) hx hb dX4_delete_22 (by decide) ?_
  refine lv_goto (tgt := 27) hx hb dX4_delete_23 (by decide) ?_
  refine lv_istore (lv' := [(4, .int (nI 1)), (0, .ref (g 0)), (1, .int (nI i)), (2, .int (nI d)), (3, .int (nI r))]) hx hb dX4_delete_27 hl (by decide) rfl (fun ls hl => ?_)
  refine lv_aload_n hx hb dX4_delete_29 rfl (lv_at hl 1 rfl) ?_
  refine lv_iload hx hb dX4_delete_30 (lv_at hl 0 rfl) ?_
  refine lv_iload hx hb dX4_delete_32 (lv_at hl 0 rfl) ?_
  refine r_if_eqB (x := true) (tgt := 60) hx hb dX4_delete_34 (by decide) (fun c34 => by cases c34) (fun c34 => ?_)
  refine lv_aload_n hx hb dX4_delete_37 rfl (lv_at hl 1 rfl) ?_
  refine lv_iload_n hx hb dX4_delete_38 rfl (lv_at hl 2 rfl) ?_
  refine lv_iload_n hx hb dX4_delete_39 rfl (lv_at hl 3 rfl) ?_
  refine lv_iload_n hx hb dX4_delete_40 rfl (lv_at hl 4 rfl) ?_
  refine r_cV (As := [.int (nI i), .int (nI d), .int (eP (some r))]) (rest := [.int (nI 1), .ref (g 0)]) ⟨hx, hb, hml, hown, hts⟩ (cX4_canEdit_ok l D ct g n dc pa va dl ge su mk dp sq tc kp la i d (some r) (by first | assumption | omega) (by first | assumption | omega) (by first | assumption | omega) (by first | assumption | omega) (by first | assumption | omega) (by first | assumption | omega) (by intro j9 h9; cases h9; exact hrn)) (cwV 3 hts gX4_delete_X4_canEdit rfl rfl rfl (by decide +kernel) ⟨Nat.le_of_ble_eq_true rfl, Nat.le_of_ble_eq_true rfl⟩) hK (hP.sub (ws' := wM ct g n dc pa va dl ge su mk dp sq tc kp la) [0, 1, 2, 3, 4, 5, 6, 7, 8, 9, 10, 11] rfl) 0 4 rfl rfl rfl hl.1 rfl (Nat.le_of_ble_eq_true rfl) dX4_delete_41 ⟨Nat.le_of_ble_eq_true rfl, Nat.le_of_ble_eq_true rfl⟩ ?_
  refine r_top (y := bI true) (congrArg bI (show (cne dc (lef pa mk i n) (bsS dc dl ge su (lef pa mk i n) d n) n d (some r)) = true from hcan)) ?_
  refine r_if_eqB (x := true) (tgt := 60) hx hb dX4_delete_44 (by decide) (fun c44 => by cases c44) (fun c44 => ?_)
  refine lv_aload_n hx hb dX4_delete_47 rfl (lv_at hl 1 rfl) ?_
  refine va_get (D := D) (ci := 4) (v := .ref (g 4)) (C := RX4) (T := TX4) (N := 13) hx hb hts (fun _ h => List.mem_cons_of_mem _ (List.mem_append_right _ h)) hown hK.1 hP 0 rfl rfl 3 (by decide) (hts (.fieldLink RX4 19 "RevisionStoresModel" "deletions" "[Z") (List.mem_of_getElem? (i := 1) rfl)) (fun _ h9 => h9) rfl dX4_delete_48 ?_
  refine lv_iload_n hx hb dX4_delete_51 rfl (lv_at hl 4 rfl) ?_
  refine r_zald (j := r) (v := bI (dl r)) hx hb hK.1 hP 4 1 rfl rfl (by omega) (by first | decide | omega) rfl dX4_delete_52 ?_
  refine r_top (y := bI false) (congrArg bI (show (dl r) = false from hdl)) ?_
  refine r_if_neB (x := false) (tgt := 60) hx hb dX4_delete_53 (by decide) (fun c53 => by cases c53) (fun c53 => ?_)
  refine lv_iconst (v := nI 1) hx hb dX4_delete_56 (by decide) ?_
  refine lv_goto (tgt := 61) hx hb dX4_delete_57 (by decide) ?_
  refine lv_iconst (v := nI 1) hx hb dX4_delete_61 (by decide) ?_
  refine r_wVi (As := [.int (bI true), .int (bI true), .int (bI true)]) (rest := []) ⟨hx, hb, hml, hown, hts⟩ (cX4_goes_ok l D ct g n dc pa va dl ge su mk dp sq tc kp la true true true  s.heap.size) (cwV 3 hts gX4_delete_X4_goes rfl rfl rfl (by decide +kernel) ⟨Nat.le_of_ble_eq_true rfl, Nat.le_of_ble_eq_true rfl⟩) hK hP hD hS hA [0, 1, 2, 3, 4, 5, 6, 7, 8, 9, 10, 11] rfl rfl rfl 0 4 rfl rfl rfl hl.1 rfl (Nat.le_of_ble_eq_true rfl) dX4_delete_62 ⟨Nat.le_of_ble_eq_true rfl, Nat.le_of_ble_eq_true rfl⟩ (fun H locs hP hD hS => ?_)
  have hP : va_P D vwCl (wM ct g n dc pa va dl ge su mk dp sq tc kp (gof true true true)) H := hP
  have hD : va_D A (wM ct g n dc pa va dl ge su mk dp sq tc kp (gof true true true)) := hD
  refine r_top (y := bI true) (congrArg bI (show (true && (true && true)) = true from rfl)) ?_
  refine r_if_neB (x := true) (tgt := 70) hx hb dX4_delete_65 (by decide) (fun c65 => ?_) (fun c65 => by cases c65)
  refine lv_aload_n hx hb dX4_delete_70 rfl (lv_at hl 1 rfl) ?_
  refine lv_iload_n hx hb dX4_delete_71 rfl (lv_at hl 2 rfl) ?_
  refine lv_iload_n hx hb dX4_delete_72 rfl (lv_at hl 3 rfl) ?_
  refine lv_iload_n hx hb dX4_delete_73 rfl (lv_at hl 4 rfl) ?_
  refine lv_iconst (v := nI 0) hx hb dX4_delete_74 (by decide) ?_
  refine lv_iconst (v := nI 1) hx hb dX4_delete_75 (by decide) ?_
  refine r_wVi (As := [.int (nI i), .int (nI d), .int (eP (some r)), .int (nI 0), .int (bI true)]) (rest := []) ⟨hx, hb, hml, hown, hts⟩ (cX4_adds_new l D ct g n dc pa va dl ge su mk dp sq tc kp (gof true true true) i d (some r) (nI 0) true (by first | assumption | omega) (by first | assumption | omega) (by first | assumption | omega) (by first | assumption | omega) (by first | assumption | omega) (by first | assumption | omega) (by intro j9 h9; cases h9; exact hrn) (by first | assumption | omega) (by first | assumption | omega) (by first | assumption | omega) H.size) (cwV 5 hts gX4_delete_X4_adds rfl rfl rfl (by decide +kernel) ⟨Nat.le_of_ble_eq_true rfl, Nat.le_of_ble_eq_true rfl⟩) hK hP hD hS hA [0, 1, 2, 3, 4, 5, 6, 7, 8, 9, 10, 11] rfl rfl rfl 0 4 rfl rfl rfl hl.1 rfl (Nat.le_of_ble_eq_true rfl) dX4_delete_76 ⟨Nat.le_of_ble_eq_true rfl, Nat.le_of_ble_eq_true rfl⟩ (fun H locs hP hD hS => ?_)
  have hP : va_P D vwCl (wM ct g (n + 1) (va_up dc n d) (va_up pa n (some r)) (va_up va n (nI 0)) (va_up dl n true) (va_up ge n (mkg ge (some r))) (va_up su n (mksu ge su (some r) (nI 0) true)) ((smS (va_up pa n (some r)) (va_up ge n (mkg ge (some r))) dp i (n + 1) (va_up mk ((150 * i) + n) true) (n + 1)).2) dp (va_up sq i (sq i + nI 1)) (va_up tc ((4 * i) + d) (sq i + nI 1)) kp (gof true true true)) H := hP
  have hD : va_D A (wM ct g (n + 1) (va_up dc n d) (va_up pa n (some r)) (va_up va n (nI 0)) (va_up dl n true) (va_up ge n (mkg ge (some r))) (va_up su n (mksu ge su (some r) (nI 0) true)) ((smS (va_up pa n (some r)) (va_up ge n (mkg ge (some r))) dp i (n + 1) (va_up mk ((150 * i) + n) true) (n + 1)).2) dp (va_up sq i (sq i + nI 1)) (va_up tc ((4 * i) + d) (sq i + nI 1)) kp (gof true true true)) := hD
  have e9 : (gof true true true) = (nI 0) := rfl
  have hP := (congrArg (fun z9 => va_P D vwCl (wM ct g (n + 1) (va_up dc n d) (va_up pa n (some r)) (va_up va n (nI 0)) (va_up dl n true) (va_up ge n (mkg ge (some r))) (va_up su n (mksu ge su (some r) (nI 0) true)) ((smS (va_up pa n (some r)) (va_up ge n (mkg ge (some r))) dp i (n + 1) (va_up mk ((150 * i) + n) true) (n + 1)).2) dp (va_up sq i (sq i + nI 1)) (va_up tc ((4 * i) + d) (sq i + nI 1)) kp z9) H) e9).mp hP
  have hP : va_P D vwCl (wM ct g (n + 1) (va_up dc n d) (va_up pa n (some r)) (va_up va n (nI 0)) (va_up dl n true) (va_up ge n (mkg ge (some r))) (va_up su n (mksu ge su (some r) (nI 0) true)) ((smS (va_up pa n (some r)) (va_up ge n (mkg ge (some r))) dp i (n + 1) (va_up mk ((150 * i) + n) true) (n + 1)).2) dp (va_up sq i (sq i + nI 1)) (va_up tc ((4 * i) + d) (sq i + nI 1)) kp (nI 0)) H := hP
  exact W.iret hx hb hr (fun t ht hW => ⟨⟨_, (), rfl, rfl, by show va_P D vwCl _ t.heap; rw [ht]; exact hP⟩, hS.F ht⟩) hS.2.2 dX4_delete_79
set_option maxHeartbeats 8000000 in
set_option maxRecDepth 100000 in
theorem cX4_delete_bad1 (l : Launch) (D : va_G) (ct : Nat → ClassId) (g : Nat → Nat) (n : Nat) (dc : Nat → Nat) (pa : Nat → Option Nat) (va : Nat → Int32) (dl : Nat → Bool) (ge : Nat → Nat) (su : Nat → Int32) (mk : Nat → Bool) (dp : Nat → Int32) (sq : Nat → Int32) (tc : Nat → Int32) (kp : Nat → Int32) (la : Int32) (p0 : Int32) (p1 : Int32) (p2 : Int32) (hbad : (inn p0 (nI 0) (nI 2) && (inn p1 (nI 0) (nI 3) && inn p2 (nI 0) (eP (prd n)))) = false) (sz : Nat) : Met l yX4_delete wsX4_delete ({ frames := 6, cells := 0, slots := 0, locals := 142 } : Room) (wrPc D ct [.ref (g 0), .int p0, .int p1, .int p2] (wM ct g n dc pa va dl ge su mk dp sq tc kp la) sz) (wqI D (nI 0) (wM ct g n dc pa va dl ge su mk dp sq tc kp (nI 1)) (va_A (wM ct g n dc pa va dl ge su mk dp sq tc kp la) sz)) 0 0 (va_A (wM ct g n dc pa va dl ge su mk dp sq tc kp la) sz) := by
  refine Met.ofW (cc := cX4_delete) (maxL := 5) (ret := (some .int)) (by decide) rfl ?_
  intro p e s m args below meth c s₁ B hml hv
  obtain ⟨rfl, hsz, hP, hK, hD0⟩ := hv
  have hx := B.exec
  have hb := B.bytes
  have hr := B.returns
  have hts := atoms_spec (ws := wsX4_delete) B.pre
  have hown : s.vm.findClass RX4 = some m.cls := findClass_of_methodNamed B.named
  have hlocks := B.notSynchronized
  subst hsz
  have hD := hD0.self (sz := s.heap.size)
  generalize hAe : va_A (wM ct g n dc pa va dl ge su mk dp sq tc kp la) s.heap.size = A at hD ⊢
  have hA : ∀ q : Nat, s.heap.size ≤ q → A q := fun q h => by rw [← hAe]; exact Or.inr h
  have hS : va_S A s.heap s.heap [] := va_S.rf
  have hP : va_P D vwCl (wM ct g n dc pa va dl ge su mk dp sq tc kp la) s.heap := hP
  clear hAe hD0
  have hl := lv_entry ([.ref (g 0), .int p0, .int p1, .int p2]) (n := 5) (Nat.le_of_ble_eq_true rfl)
  rw [lg_entry_eq]
  generalize (lg_sl ([.ref (g 0), .int p0, .int p1, .int p2]) ++ List.replicate (5 - (lg_sl ([.ref (g 0), .int p0, .int p1, .int p2])).length) Slot.unset).toArray = ls at hl ⊢
  have hl : lv_has ls 5 [(0, .ref (g 0)), (1, .int p0), (2, .int p1), (3, .int p2)] := hl
  have hH0 : s.heap.size ≤ s.heap.size := Nat.le_refl _
  have jn27 : ∀ (H : Heap) (locs : List Loc) (ls : Array Slot), va_P D vwCl (wM ct g n dc pa va dl ge su mk dp sq tc kp la) H → va_D A (wM ct g n dc pa va dl ge su mk dp sq tc kp la) → va_S A s.heap H locs → lv_has ls 5 [(0, .ref (g 0)), (1, .int p0), (2, .int p1), (3, .int p2)] → W p l e ({ frames := 6, cells := 0, slots := 0, locals := 142 } : Room) s m ([.ref (g 0), .int p0, .int p1, .int p2] : List Value).toArray below meth c H locs 0 0 (MQ below (wqI D (nI 0) (wM ct g n dc pa va dl ge su mk dp sq tc kp (nI 1)) A) ([.ref (g 0), .int p0, .int p1, .int p2] : List Value).toArray s 0 0 A) (F0 m 27 ls [.int (bI false)]) := by
    intro H locs ls hP hD hS hl
    refine lv_istore (lv' := [(4, .int (bI false)), (0, .ref (g 0)), (1, .int p0), (2, .int p1), (3, .int p2)]) hx hb dX4_delete_27 hl (by decide) rfl (fun ls hl => ?_)
    refine lv_aload_n hx hb dX4_delete_29 rfl (lv_at hl 1 rfl) ?_
    refine lv_iload hx hb dX4_delete_30 (lv_at hl 0 rfl) ?_
    refine lv_iload hx hb dX4_delete_32 (lv_at hl 0 rfl) ?_
    refine r_if_eqB (x := false) (tgt := 60) hx hb dX4_delete_34 (by decide) (fun c34 => ?_) (fun c34 => by cases c34)
    refine lv_iconst (v := nI 0) hx hb dX4_delete_60 (by decide) ?_
    refine lv_iconst (v := nI 1) hx hb dX4_delete_61 (by decide) ?_
    refine r_wVi (As := [.int (bI false), .int (bI false), .int (bI true)]) (rest := []) ⟨hx, hb, hml, hown, hts⟩ (cX4_goes_ok l D ct g n dc pa va dl ge su mk dp sq tc kp la false false true  H.size) (cwV 3 hts gX4_delete_X4_goes rfl rfl rfl (by decide +kernel) ⟨Nat.le_of_ble_eq_true rfl, Nat.le_of_ble_eq_true rfl⟩) hK hP hD hS hA [0, 1, 2, 3, 4, 5, 6, 7, 8, 9, 10, 11] rfl rfl rfl 0 4 rfl rfl rfl hl.1 rfl (Nat.le_of_ble_eq_true rfl) dX4_delete_62 ⟨Nat.le_of_ble_eq_true rfl, Nat.le_of_ble_eq_true rfl⟩ (fun H locs hP hD hS => ?_)
    have hP : va_P D vwCl (wM ct g n dc pa va dl ge su mk dp sq tc kp (gof false false true)) H := hP
    have hD : va_D A (wM ct g n dc pa va dl ge su mk dp sq tc kp (gof false false true)) := hD
    refine r_top (y := bI false) (congrArg bI (show (false && (false && true)) = false from rfl)) ?_
    refine r_if_neB (x := false) (tgt := 70) hx hb dX4_delete_65 (by decide) (fun c65 => by cases c65) (fun c65 => ?_)
    refine lv_iconst (v := nI 0) hx hb dX4_delete_68 (by decide) ?_
    have e9 : (gof false false true) = (nI 1) := rfl
    have hP := (congrArg (fun z9 => va_P D vwCl (wM ct g n dc pa va dl ge su mk dp sq tc kp z9) H) e9).mp hP
    have hP : va_P D vwCl (wM ct g n dc pa va dl ge su mk dp sq tc kp (nI 1)) H := hP
    exact W.iret hx hb hr (fun t ht hW => ⟨⟨_, (), rfl, rfl, by show va_P D vwCl _ t.heap; rw [ht]; exact hP⟩, hS.F ht⟩) hS.2.2 dX4_delete_69
  refine lv_iload_n hx hb dX4_delete_0 rfl (lv_at hl 1 rfl) ?_
  refine r_cS (As := [.int p0]) (rest := []) ⟨hx, hb, hml, hown, hts⟩ (cX4_isStore_ok l D ct p0 ) (va_cwS 1 hts gX4_delete_X4_isStore rfl rfl rfl (by decide +kernel) ⟨Nat.le_of_ble_eq_true rfl, Nat.le_of_ble_eq_true rfl⟩) hK va_Pnil rfl hl.1 rfl (Nat.le_of_ble_eq_true rfl) dX4_delete_1 ⟨Nat.le_of_ble_eq_true rfl, Nat.le_of_ble_eq_true rfl⟩ ?_
  refine r_if_eqB (x := inn p0 (nI 0) (nI 2)) (tgt := 26) hx hb dX4_delete_4 (by decide) (fun c4 => ?_) (fun c4 => ?_)
  · refine lv_iconst (v := nI 0) hx hb dX4_delete_26 (by decide) ?_
    refine r_top (y := bI false) (congrArg bI (show false = false from by first | rfl | (exfalso; simp [c4] at hbad))) ?_
    exact jn27 _ _ ls hP hD hS (lv_sub hl [0, 1, 2, 3] rfl)
  · refine lv_iload_n hx hb dX4_delete_7 rfl (lv_at hl 2 rfl) ?_
    refine r_cS (As := [.int p1]) (rest := []) ⟨hx, hb, hml, hown, hts⟩ (cX4_isDocument_ok l D ct p1 ) (va_cwS 1 hts gX4_delete_X4_isDocument rfl rfl rfl (by decide +kernel) ⟨Nat.le_of_ble_eq_true rfl, Nat.le_of_ble_eq_true rfl⟩) hK va_Pnil rfl hl.1 rfl (Nat.le_of_ble_eq_true rfl) dX4_delete_8 ⟨Nat.le_of_ble_eq_true rfl, Nat.le_of_ble_eq_true rfl⟩ ?_
    refine r_if_eqB (x := inn p1 (nI 0) (nI 3)) (tgt := 26) hx hb dX4_delete_11 (by decide) (fun c11 => ?_) (fun c11 => ?_)
    · refine lv_iconst (v := nI 0) hx hb dX4_delete_26 (by decide) ?_
      refine r_top (y := bI false) (congrArg bI (show false = false from by first | rfl | (exfalso; simp [c4, c11] at hbad))) ?_
      exact jn27 _ _ ls hP hD hS (lv_sub hl [0, 1, 2, 3] rfl)
    · refine lv_aload_n hx hb dX4_delete_14 rfl (lv_at hl 0 rfl) ?_
      refine lv_iload_n hx hb dX4_delete_15 rfl (lv_at hl 3 rfl) ?_
      refine r_cV (As := [.int p2]) (rest := []) ⟨hx, hb, hml, hown, hts⟩ (cX4_isRevision_ok l D ct g n dc pa va dl ge su mk dp sq tc kp la p2 ) (cwV 1 hts gX4_delete_X4_isRevision rfl rfl rfl (by decide +kernel) ⟨Nat.le_of_ble_eq_true rfl, Nat.le_of_ble_eq_true rfl⟩) hK (hP.sub (ws' := wM ct g n dc pa va dl ge su mk dp sq tc kp la) [0, 1, 2, 3, 4, 5, 6, 7, 8, 9, 10, 11] rfl) 0 4 rfl rfl rfl hl.1 rfl (Nat.le_of_ble_eq_true rfl) dX4_delete_16 ⟨Nat.le_of_ble_eq_true rfl, Nat.le_of_ble_eq_true rfl⟩ ?_
      refine r_if_eqB (x := inn p2 (nI 0) (eP (prd n))) (tgt := 26) hx hb dX4_delete_19 (by decide) (fun c19 => ?_) (fun c19 => ?_)
      · refine lv_iconst (v := nI 0) hx hb dX4_delete_26 (by decide) ?_
        refine r_top (y := bI false) (congrArg bI (show false = false from by first | rfl | (exfalso; simp [c4, c11, c19] at hbad))) ?_
        exact jn27 _ _ ls hP hD hS (lv_sub hl [0, 1, 2, 3] rfl)
      · refine lv_iconst (v := nI 1) hx hb dX4_delete_22 (by decide) ?_
        refine lv_goto (tgt := 27) hx hb dX4_delete_23 (by decide) ?_
        refine r_top (y := bI false) (congrArg bI (show true = false from by first | rfl | (exfalso; simp [c4, c11, c19] at hbad))) ?_
        exact jn27 _ _ ls hP hD hS (lv_sub hl [0, 1, 2, 3] rfl)
set_option maxHeartbeats 8000000 in
set_option maxRecDepth 100000 in
theorem cX4_delete_bad2 (l : Launch) (D : va_G) (ct : Nat → ClassId) (g : Nat → Nat) (n : Nat) (dc : Nat → Nat) (pa : Nat → Option Nat) (va : Nat → Int32) (dl : Nat → Bool) (ge : Nat → Nat) (su : Nat → Int32) (mk : Nat → Bool) (dp : Nat → Int32) (sq : Nat → Int32) (tc : Nat → Int32) (kp : Nat → Int32) (la : Int32) (i : Nat) (d : Nat) (r : Nat) (hn : n ≤ 150) (hTd : ∀ k, dc k < 4) (hTg : ∀ k, ge k ≤ 150) (hTp : ∀ k j, k < n → pa k = some j → j < k) (hi : i < 3) (hd4 : d < 4) (hrn : r < n) (hbad : (cne dc (lef pa mk i n) (bsS dc dl ge su (lef pa mk i n) d n) n d (some r) && !dl r) = false) (sz : Nat) : Met l yX4_delete wsX4_delete ({ frames := 6, cells := 0, slots := 0, locals := 142 } : Room) (wrPc D ct [.ref (g 0), .int (nI i), .int (nI d), .int (nI r)] (wM ct g n dc pa va dl ge su mk dp sq tc kp la) sz) (wqI D (nI 0) (wM ct g n dc pa va dl ge su mk dp sq tc kp (nI 2)) (va_A (wM ct g n dc pa va dl ge su mk dp sq tc kp la) sz)) 0 0 (va_A (wM ct g n dc pa va dl ge su mk dp sq tc kp la) sz) := by
  refine Met.ofW (cc := cX4_delete) (maxL := 5) (ret := (some .int)) (by decide) rfl ?_
  intro p e s m args below meth c s₁ B hml hv
  obtain ⟨rfl, hsz, hP, hK, hD0⟩ := hv
  have hx := B.exec
  have hb := B.bytes
  have hr := B.returns
  have hts := atoms_spec (ws := wsX4_delete) B.pre
  have hown : s.vm.findClass RX4 = some m.cls := findClass_of_methodNamed B.named
  have hlocks := B.notSynchronized
  subst hsz
  have hD := hD0.self (sz := s.heap.size)
  generalize hAe : va_A (wM ct g n dc pa va dl ge su mk dp sq tc kp la) s.heap.size = A at hD ⊢
  have hA : ∀ q : Nat, s.heap.size ≤ q → A q := fun q h => by rw [← hAe]; exact Or.inr h
  have hS : va_S A s.heap s.heap [] := va_S.rf
  have hP : va_P D vwCl (wM ct g n dc pa va dl ge su mk dp sq tc kp la) s.heap := hP
  clear hAe hD0
  have hl := lv_entry ([.ref (g 0), .int (nI i), .int (nI d), .int (nI r)]) (n := 5) (Nat.le_of_ble_eq_true rfl)
  rw [lg_entry_eq]
  generalize (lg_sl ([.ref (g 0), .int (nI i), .int (nI d), .int (nI r)]) ++ List.replicate (5 - (lg_sl ([.ref (g 0), .int (nI i), .int (nI d), .int (nI r)])).length) Slot.unset).toArray = ls at hl ⊢
  have hl : lv_has ls 5 [(0, .ref (g 0)), (1, .int (nI i)), (2, .int (nI d)), (3, .int (nI r))] := hl
  have hH0 : s.heap.size ≤ s.heap.size := Nat.le_refl _
  refine lv_iload_n hx hb dX4_delete_0 rfl (lv_at hl 1 rfl) ?_
  refine r_cS (As := [.int (nI i)]) (rest := []) ⟨hx, hb, hml, hown, hts⟩ (cX4_isStore_ok l D ct (nI i) ) (va_cwS 1 hts gX4_delete_X4_isStore rfl rfl rfl (by decide +kernel) ⟨Nat.le_of_ble_eq_true rfl, Nat.le_of_ble_eq_true rfl⟩) hK va_Pnil rfl hl.1 rfl (Nat.le_of_ble_eq_true rfl) dX4_delete_1 ⟨Nat.le_of_ble_eq_true rfl, Nat.le_of_ble_eq_true rfl⟩ ?_
  refine r_top (y := bI true) (congrArg bI (show (inn (nI i) (nI 0) (nI 2)) = true from inn_t (by omega) (by decide))) ?_
  refine r_if_eqB (x := true) (tgt := 26) hx hb dX4_delete_4 (by decide) (fun c4 => by cases c4) (fun c4 => ?_)
  refine lv_iload_n hx hb dX4_delete_7 rfl (lv_at hl 2 rfl) ?_
  refine r_cS (As := [.int (nI d)]) (rest := []) ⟨hx, hb, hml, hown, hts⟩ (cX4_isDocument_ok l D ct (nI d) ) (va_cwS 1 hts gX4_delete_X4_isDocument rfl rfl rfl (by decide +kernel) ⟨Nat.le_of_ble_eq_true rfl, Nat.le_of_ble_eq_true rfl⟩) hK va_Pnil rfl hl.1 rfl (Nat.le_of_ble_eq_true rfl) dX4_delete_8 ⟨Nat.le_of_ble_eq_true rfl, Nat.le_of_ble_eq_true rfl⟩ ?_
  refine r_top (y := bI true) (congrArg bI (show (inn (nI d) (nI 0) (nI 3)) = true from inn_t (by omega) (by decide))) ?_
  refine r_if_eqB (x := true) (tgt := 26) hx hb dX4_delete_11 (by decide) (fun c11 => by cases c11) (fun c11 => ?_)
  refine lv_aload_n hx hb dX4_delete_14 rfl (lv_at hl 0 rfl) ?_
  refine lv_iload_n hx hb dX4_delete_15 rfl (lv_at hl 3 rfl) ?_
  refine r_cV (As := [.int (nI r)]) (rest := []) ⟨hx, hb, hml, hown, hts⟩ (cX4_isRevision_ok l D ct g n dc pa va dl ge su mk dp sq tc kp la (nI r) ) (cwV 1 hts gX4_delete_X4_isRevision rfl rfl rfl (by decide +kernel) ⟨Nat.le_of_ble_eq_true rfl, Nat.le_of_ble_eq_true rfl⟩) hK (hP.sub (ws' := wM ct g n dc pa va dl ge su mk dp sq tc kp la) [0, 1, 2, 3, 4, 5, 6, 7, 8, 9, 10, 11] rfl) 0 4 rfl rfl rfl hl.1 rfl (Nat.le_of_ble_eq_true rfl) dX4_delete_16 ⟨Nat.le_of_ble_eq_true rfl, Nat.le_of_ble_eq_true rfl⟩ ?_
  refine r_top (y := bI true) (congrArg bI (show (inn (nI r) (nI 0) (eP (prd n))) = true from inn_r hrn hn)) ?_
  refine r_if_eqB (x := true) (tgt := 26) hx hb dX4_delete_19 (by decide) (fun c19 => by cases c19) (fun c19 => ?_)
  refine lv_iconst (v := nI 1) hx hb dX4_delete_22 (by decide) ?_
  refine lv_goto (tgt := 27) hx hb dX4_delete_23 (by decide) ?_
  refine lv_istore (lv' := [(4, .int (nI 1)), (0, .ref (g 0)), (1, .int (nI i)), (2, .int (nI d)), (3, .int (nI r))]) hx hb dX4_delete_27 hl (by decide) rfl (fun ls hl => ?_)
  refine lv_aload_n hx hb dX4_delete_29 rfl (lv_at hl 1 rfl) ?_
  refine lv_iload hx hb dX4_delete_30 (lv_at hl 0 rfl) ?_
  refine lv_iload hx hb dX4_delete_32 (lv_at hl 0 rfl) ?_
  refine r_if_eqB (x := true) (tgt := 60) hx hb dX4_delete_34 (by decide) (fun c34 => by cases c34) (fun c34 => ?_)
  refine lv_aload_n hx hb dX4_delete_37 rfl (lv_at hl 1 rfl) ?_
  refine lv_iload_n hx hb dX4_delete_38 rfl (lv_at hl 2 rfl) ?_
  refine lv_iload_n hx hb dX4_delete_39 rfl (lv_at hl 3 rfl) ?_
  refine lv_iload_n hx hb dX4_delete_40 rfl (lv_at hl 4 rfl) ?_
  refine r_cV (As := [.int (nI i), .int (nI d), .int (eP (some r))]) (rest := [.int (nI 1), .ref (g 0)]) ⟨hx, hb, hml, hown, hts⟩ (cX4_canEdit_ok l D ct g n dc pa va dl ge su mk dp sq tc kp la i d (some r) (by first | assumption | omega) (by first | assumption | omega) (by first | assumption | omega) (by first | assumption | omega) (by first | assumption | omega) (by first | assumption | omega) (by intro j9 h9; cases h9; exact hrn)) (cwV 3 hts gX4_delete_X4_canEdit rfl rfl rfl (by decide +kernel) ⟨Nat.le_of_ble_eq_true rfl, Nat.le_of_ble_eq_true rfl⟩) hK (hP.sub (ws' := wM ct g n dc pa va dl ge su mk dp sq tc kp la) [0, 1, 2, 3, 4, 5, 6, 7, 8, 9, 10, 11] rfl) 0 4 rfl rfl rfl hl.1 rfl (Nat.le_of_ble_eq_true rfl) dX4_delete_41 ⟨Nat.le_of_ble_eq_true rfl, Nat.le_of_ble_eq_true rfl⟩ ?_
  refine r_if_eqB (x := cne dc (lef pa mk i n) (bsS dc dl ge su (lef pa mk i n) d n) n d (some r)) (tgt := 60) hx hb dX4_delete_44 (by decide) (fun c44 => ?_) (fun c44 => ?_)
  · refine lv_iconst (v := nI 0) hx hb dX4_delete_60 (by decide) ?_
    refine lv_iconst (v := nI 1) hx hb dX4_delete_61 (by decide) ?_
    refine r_wVi (As := [.int (bI true), .int (bI false), .int (bI true)]) (rest := []) ⟨hx, hb, hml, hown, hts⟩ (cX4_goes_ok l D ct g n dc pa va dl ge su mk dp sq tc kp la true false true  s.heap.size) (cwV 3 hts gX4_delete_X4_goes rfl rfl rfl (by decide +kernel) ⟨Nat.le_of_ble_eq_true rfl, Nat.le_of_ble_eq_true rfl⟩) hK hP hD hS hA [0, 1, 2, 3, 4, 5, 6, 7, 8, 9, 10, 11] rfl rfl rfl 0 4 rfl rfl rfl hl.1 rfl (Nat.le_of_ble_eq_true rfl) dX4_delete_62 ⟨Nat.le_of_ble_eq_true rfl, Nat.le_of_ble_eq_true rfl⟩ (fun H locs hP hD hS => ?_)
    have hP : va_P D vwCl (wM ct g n dc pa va dl ge su mk dp sq tc kp (gof true false true)) H := hP
    have hD : va_D A (wM ct g n dc pa va dl ge su mk dp sq tc kp (gof true false true)) := hD
    refine r_top (y := bI false) (congrArg bI (show (true && (false && true)) = false from rfl)) ?_
    refine r_if_neB (x := false) (tgt := 70) hx hb dX4_delete_65 (by decide) (fun c65 => by cases c65) (fun c65 => ?_)
    refine lv_iconst (v := nI 0) hx hb dX4_delete_68 (by decide) ?_
    have e9 : (gof true false true) = (nI 2) := rfl
    have hP := (congrArg (fun z9 => va_P D vwCl (wM ct g n dc pa va dl ge su mk dp sq tc kp z9) H) e9).mp hP
    have hP : va_P D vwCl (wM ct g n dc pa va dl ge su mk dp sq tc kp (nI 2)) H := hP
    exact W.iret hx hb hr (fun t ht hW => ⟨⟨_, (), rfl, rfl, by show va_P D vwCl _ t.heap; rw [ht]; exact hP⟩, hS.F ht⟩) hS.2.2 dX4_delete_69
  · refine lv_aload_n hx hb dX4_delete_47 rfl (lv_at hl 1 rfl) ?_
    refine va_get (D := D) (ci := 4) (v := .ref (g 4)) (C := RX4) (T := TX4) (N := 13) hx hb hts (fun _ h => List.mem_cons_of_mem _ (List.mem_append_right _ h)) hown hK.1 hP 0 rfl rfl 3 (by decide) (hts (.fieldLink RX4 19 "RevisionStoresModel" "deletions" "[Z") (List.mem_of_getElem? (i := 1) rfl)) (fun _ h9 => h9) rfl dX4_delete_48 ?_
    refine lv_iload_n hx hb dX4_delete_51 rfl (lv_at hl 4 rfl) ?_
    refine r_zald (j := r) (v := bI (dl r)) hx hb hK.1 hP 4 1 rfl rfl (by omega) (by first | decide | omega) rfl dX4_delete_52 ?_
    refine r_if_neB (x := dl r) (tgt := 60) hx hb dX4_delete_53 (by decide) (fun c53 => ?_) (fun c53 => ?_)
    · refine lv_iconst (v := nI 0) hx hb dX4_delete_60 (by decide) ?_
      refine lv_iconst (v := nI 1) hx hb dX4_delete_61 (by decide) ?_
      refine r_wVi (As := [.int (bI true), .int (bI false), .int (bI true)]) (rest := []) ⟨hx, hb, hml, hown, hts⟩ (cX4_goes_ok l D ct g n dc pa va dl ge su mk dp sq tc kp la true false true  s.heap.size) (cwV 3 hts gX4_delete_X4_goes rfl rfl rfl (by decide +kernel) ⟨Nat.le_of_ble_eq_true rfl, Nat.le_of_ble_eq_true rfl⟩) hK hP hD hS hA [0, 1, 2, 3, 4, 5, 6, 7, 8, 9, 10, 11] rfl rfl rfl 0 4 rfl rfl rfl hl.1 rfl (Nat.le_of_ble_eq_true rfl) dX4_delete_62 ⟨Nat.le_of_ble_eq_true rfl, Nat.le_of_ble_eq_true rfl⟩ (fun H locs hP hD hS => ?_)
      have hP : va_P D vwCl (wM ct g n dc pa va dl ge su mk dp sq tc kp (gof true false true)) H := hP
      have hD : va_D A (wM ct g n dc pa va dl ge su mk dp sq tc kp (gof true false true)) := hD
      refine r_top (y := bI false) (congrArg bI (show (true && (false && true)) = false from rfl)) ?_
      refine r_if_neB (x := false) (tgt := 70) hx hb dX4_delete_65 (by decide) (fun c65 => by cases c65) (fun c65 => ?_)
      refine lv_iconst (v := nI 0) hx hb dX4_delete_68 (by decide) ?_
      have e9 : (gof true false true) = (nI 2) := rfl
      have hP := (congrArg (fun z9 => va_P D vwCl (wM ct g n dc pa va dl ge su mk dp sq tc kp z9) H) e9).mp hP
      have hP : va_P D vwCl (wM ct g n dc pa va dl ge su mk dp sq tc kp (nI 2)) H := hP
      exact W.iret hx hb hr (fun t ht hW => ⟨⟨_, (), rfl, rfl, by show va_P D vwCl _ t.heap; rw [ht]; exact hP⟩, hS.F ht⟩) hS.2.2 dX4_delete_69
    · exact absurd hbad (by rw [c44, c53]; decide)
