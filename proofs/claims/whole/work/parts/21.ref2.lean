set_option maxHeartbeats 8000000 in
set_option maxRecDepth 100000 in
theorem cX4_best_ok (l : Launch) (D : va_G) (ct : Nat → ClassId) (g : Nat → Nat) (n : Nat) (dc : Nat → Nat) (pa : Nat → Option Nat) (va : Nat → Int32) (dl : Nat → Bool) (ge : Nat → Nat) (su : Nat → Int32) (mk : Nat → Bool) (dp : Nat → Int32) (sq : Nat → Int32) (tc : Nat → Int32) (kp : Nat → Int32) (la : Int32) (i : Nat) (d : Nat) (hn : n ≤ 150) (hTd : ∀ k, dc k < 4) (hTg : ∀ k, ge k ≤ 150) (hTp : ∀ k j, k < n → pa k = some j → j < k) (hi : i < 3) (hd4 : d < 4) : Met l yX4_best wsX4_best ({ frames := 3, cells := 0, slots := 0, locals := 69 } : Room) (roPc D ct [.ref (g 0), .int (nI i), .int (nI d)] (wM ct g n dc pa va dl ge su mk dp sq tc kp la)) (rqI (eP (bsS dc dl ge su (lef pa mk i n) d n))) 0 0 (fun _ => False) := by
  refine Met.ofW (cc := cX4_best) (maxL := 6) (ret := (some .int)) (by decide) rfl ?_
  intro p e s m args below meth c s₁ B hml hv
  obtain ⟨rfl, hP, hK⟩ := hv
  have hx := B.exec
  have hb := B.bytes
  have hr := B.returns
  have hts := atoms_spec (ws := wsX4_best) B.pre
  have hown : s.vm.findClass RX4 = some m.cls := findClass_of_methodNamed B.named
  have hlocks := B.notSynchronized
  have hl := lv_entry ([.ref (g 0), .int (nI i), .int (nI d)]) (n := 6) (Nat.le_of_ble_eq_true rfl)
  rw [lg_entry_eq]
  generalize (lg_sl ([.ref (g 0), .int (nI i), .int (nI d)]) ++ List.replicate (6 - (lg_sl ([.ref (g 0), .int (nI i), .int (nI d)])).length) Slot.unset).toArray = ls at hl ⊢
  have hl : lv_has ls 6 [(0, .ref (g 0)), (1, .int (nI i)), (2, .int (nI d))] := hl
  refine lv_iconst (v := -1) hx hb dX4_best_0 (by decide) ?_
  refine lv_istore_n (lv' := [(3, .int (eP none)), (0, .ref (g 0)), (1, .int (nI i)), (2, .int (nI d))]) hx hb dX4_best_1 rfl hl (by decide) rfl (fun ls hl => ?_)
  refine lv_iconst (v := nI 0) hx hb dX4_best_2 (by decide) ?_
  refine lv_istore (lv' := [(4, .int (nI 0)), (3, .int (eP none)), (0, .ref (g 0)), (1, .int (nI i)), (2, .int (nI d))]) hx hb dX4_best_3 hl (by decide) rfl (fun ls hl => ?_)
  have key5 : ∀ (d5 : Nat) (k : Nat) (hk : k ≤ n), n - k < d5 → ∀  (ls : Array Slot), lv_has ls 6 [(4, .int (nI k)), (3, .int (eP (bsS dc dl ge su (lef pa mk i n) d k))), (0, .ref (g 0)), (1, .int (nI i)), (2, .int (nI d))] → W p l e ({ frames := 3, cells := 0, slots := 0, locals := 69 } : Room) s m ([.ref (g 0), .int (nI i), .int (nI d)] : List Value).toArray below meth c s.heap [] 0 0 (MQ below (rqI (eP (bsS dc dl ge su (lef pa mk i n) d n))) ([.ref (g 0), .int (nI i), .int (nI d)] : List Value).toArray s 0 0 (fun _ => False)) (F0 m 5 ls []) := by
    intro d5
    induction d5 with
    | zero => intro k hk h9; exact absurd h9 (Nat.not_lt_zero _)
    | succ d5 ih5 =>
      intro k hk hm5  ls  hl
      refine lv_iload hx hb dX4_best_5 (lv_at hl 0 rfl) ?_
      refine lv_aload_n hx hb dX4_best_7 rfl (lv_at hl 2 rfl) ?_
      refine va_get (D := D) (ci := 4) (v := .int (nI n)) (C := RX4) (T := TX4) (N := 13) hx hb hts (fun _ h => List.mem_cons_of_mem _ (List.mem_append_right _ h)) hown hK.1 hP 0 rfl rfl 6 (by decide) (hts (.fieldLink RX4 52 "RevisionStoresModel" "revisions" "I") (List.mem_of_getElem? (i := 1) rfl)) (fun _ h9 => h9) rfl dX4_best_8 ?_
      refine r_icmp_geN hx hb (x := k) (y := n) (by first | omega | decide) (by first | omega | decide) (tgt := 75) dX4_best_11 (by decide) (fun c11 => ?_) (fun c11 => ?_)
      · refine lv_iload_n hx hb dX4_best_75 rfl (lv_at hl 1 rfl) ?_
        refine r_top (y := eP (bsS dc dl ge su (lef pa mk i n) d n)) (congrArg eP (show (bsS dc dl ge su (lef pa mk i n) d k) = (bsS dc dl ge su (lef pa mk i n) d n) from by rw [show k = n by omega])) ?_
        exact W.iret hx hb hr (fun t ht hW => ⟨_, rfl, rfl, ht⟩) (fun _ h => by cases h) dX4_best_76
      · refine lv_aload_n hx hb dX4_best_14 rfl (lv_at hl 2 rfl) ?_
        refine va_get (D := D) (ci := 4) (v := .ref (g 1)) (C := RX4) (T := TX4) (N := 13) hx hb hts (fun _ h => List.mem_cons_of_mem _ (List.mem_append_right _ h)) hown hK.1 hP 0 rfl rfl 0 (by decide) (hts (.fieldLink RX4 7 "RevisionStoresModel" "documents" "[I") (List.mem_of_getElem? (i := 2) rfl)) (fun _ h9 => h9) rfl dX4_best_15 ?_
        refine lv_iload hx hb dX4_best_18 (lv_at hl 0 rfl) ?_
        refine r_iald (j := k) (v := nI (dc k)) hx hb hK.1 hP 1 0 rfl rfl (by omega) (by first | decide | omega) rfl dX4_best_20 ?_
        have f20 := hTd k
        refine lv_iload_n hx hb dX4_best_21 rfl (lv_at hl 4 rfl) ?_
        refine r_icmp_neN hx hb (x := dc k) (y := d) (by first | omega | decide) (by first | omega | decide) (tgt := 39) dX4_best_22 (by decide) (fun c22 => ?_) (fun c22 => ?_)
        · refine lv_iconst (v := nI 0) hx hb dX4_best_39 (by decide) ?_
          refine lv_istore (lv' := [(5, .int (nI 0)), (4, .int (nI k)), (3, .int (eP (bsS dc dl ge su (lef pa mk i n) d k))), (0, .ref (g 0)), (1, .int (nI i)), (2, .int (nI d))]) hx hb dX4_best_40 hl (by decide) rfl (fun ls hl => ?_)
          refine lv_iload hx hb dX4_best_42 (lv_at hl 0 rfl) ?_
          refine r_if_eqB (x := false) (tgt := 67) hx hb dX4_best_44 (by decide) (fun c44 => ?_) (fun c44 => by cases c44)
          refine lv_iload_n hx hb dX4_best_67 rfl (lv_at hl 2 rfl) ?_
          refine lv_istore_n (lv' := [(3, .int (eP (bsS dc dl ge su (lef pa mk i n) d k))), (5, .int (nI 0)), (4, .int (nI k)), (0, .ref (g 0)), (1, .int (nI i)), (2, .int (nI d))]) hx hb dX4_best_68 rfl hl (by decide) rfl (fun ls hl => ?_)
          refine lv_iinc (v := nI (k + 1)) (lv' := [(4, .int (nI (k + 1))), (3, .int (eP (bsS dc dl ge su (lef pa mk i n) d k))), (5, .int (nI 0)), (0, .ref (g 0)), (1, .int (nI i)), (2, .int (nI d))]) hx hb dX4_best_69 hl (k := 2) rfl (nI_1 _) (by decide) rfl (fun ls hl => ?_)
          refine lv_goto (tgt := 5) hx hb dX4_best_72 (by decide) ?_
          have hl := lv_re (f := fun z9 => [(4, .int (nI (k + 1))), (3, .int z9), (5, .int (nI 0)), (0, .ref (g 0)), (1, .int (nI i)), (2, .int (nI d))]) hl (show eP (bsS dc dl ge su (lef pa mk i n) d k) = eP (bsS dc dl ge su (lef pa mk i n) d (k + 1)) from congrArg eP (show (bsS dc dl ge su (lef pa mk i n) d k) = (bsS dc dl ge su (lef pa mk i n) d (k + 1)) from by show _ = bsp dc dl ge su (lef pa mk i n) d k (bsS dc dl ge su (lef pa mk i n) d k); simp [bsp, c11, c22, c44]))
          exact ih5 (k + 1) (by first | assumption | omega) (by omega)  ls  (lv_sub hl [0, 1, 3, 4, 5] rfl)
        · refine lv_aload_n hx hb dX4_best_25 rfl (lv_at hl 2 rfl) ?_
          refine lv_iload_n hx hb dX4_best_26 rfl (lv_at hl 3 rfl) ?_
          refine lv_iload hx hb dX4_best_27 (lv_at hl 0 rfl) ?_
          refine r_cV (As := [.int (nI i), .int (nI k)]) (rest := []) ⟨hx, hb, hml, hown, hts⟩ (cX4_leaf_ok l D ct g n dc pa va dl ge su mk dp sq tc kp la i k (by first | assumption | omega) (by first | assumption | omega) (by first | assumption | omega) (by first | assumption | omega)) (cwV 2 hts gX4_best_X4_leaf rfl rfl rfl (by decide +kernel) ⟨Nat.le_of_ble_eq_true rfl, Nat.le_of_ble_eq_true rfl⟩) hK (hP.sub (ws' := wM ct g n dc pa va dl ge su mk dp sq tc kp la) [0, 1, 2, 3, 4, 5, 6, 7, 8, 9, 10, 11] rfl) 0 4 rfl rfl rfl hl.1 rfl (Nat.le_of_ble_eq_true rfl) dX4_best_29 ⟨Nat.le_of_ble_eq_true rfl, Nat.le_of_ble_eq_true rfl⟩ ?_
          refine r_if_eqB (x := lef pa mk i n k) (tgt := 39) hx hb dX4_best_32 (by decide) (fun c32 => ?_) (fun c32 => ?_)
          · refine lv_iconst (v := nI 0) hx hb dX4_best_39 (by decide) ?_
            refine lv_istore (lv' := [(5, .int (nI 0)), (4, .int (nI k)), (3, .int (eP (bsS dc dl ge su (lef pa mk i n) d k))), (0, .ref (g 0)), (1, .int (nI i)), (2, .int (nI d))]) hx hb dX4_best_40 hl (by decide) rfl (fun ls hl => ?_)
            refine lv_iload hx hb dX4_best_42 (lv_at hl 0 rfl) ?_
            refine r_if_eqB (x := false) (tgt := 67) hx hb dX4_best_44 (by decide) (fun c44 => ?_) (fun c44 => by cases c44)
            refine lv_iload_n hx hb dX4_best_67 rfl (lv_at hl 2 rfl) ?_
            refine lv_istore_n (lv' := [(3, .int (eP (bsS dc dl ge su (lef pa mk i n) d k))), (5, .int (nI 0)), (4, .int (nI k)), (0, .ref (g 0)), (1, .int (nI i)), (2, .int (nI d))]) hx hb dX4_best_68 rfl hl (by decide) rfl (fun ls hl => ?_)
            refine lv_iinc (v := nI (k + 1)) (lv' := [(4, .int (nI (k + 1))), (3, .int (eP (bsS dc dl ge su (lef pa mk i n) d k))), (5, .int (nI 0)), (0, .ref (g 0)), (1, .int (nI i)), (2, .int (nI d))]) hx hb dX4_best_69 hl (k := 2) rfl (nI_1 _) (by decide) rfl (fun ls hl => ?_)
            refine lv_goto (tgt := 5) hx hb dX4_best_72 (by decide) ?_
            have hl := lv_re (f := fun z9 => [(4, .int (nI (k + 1))), (3, .int z9), (5, .int (nI 0)), (0, .ref (g 0)), (1, .int (nI i)), (2, .int (nI d))]) hl (show eP (bsS dc dl ge su (lef pa mk i n) d k) = eP (bsS dc dl ge su (lef pa mk i n) d (k + 1)) from congrArg eP (show (bsS dc dl ge su (lef pa mk i n) d k) = (bsS dc dl ge su (lef pa mk i n) d (k + 1)) from by show _ = bsp dc dl ge su (lef pa mk i n) d k (bsS dc dl ge su (lef pa mk i n) d k); simp [bsp, c11, c22, c32, c44]))
            exact ih5 (k + 1) (by first | assumption | omega) (by omega)  ls  (lv_sub hl [0, 1, 3, 4, 5] rfl)
          · refine lv_iconst (v := nI 1) hx hb dX4_best_35 (by decide) ?_
            refine lv_goto (tgt := 40) hx hb dX4_best_36 (by decide) ?_
            refine lv_istore (lv' := [(5, .int (nI 1)), (4, .int (nI k)), (3, .int (eP (bsS dc dl ge su (lef pa mk i n) d k))), (0, .ref (g 0)), (1, .int (nI i)), (2, .int (nI d))]) hx hb dX4_best_40 hl (by decide) rfl (fun ls hl => ?_)
            refine lv_iload hx hb dX4_best_42 (lv_at hl 0 rfl) ?_
            refine r_if_eqB (x := true) (tgt := 67) hx hb dX4_best_44 (by decide) (fun c44 => by cases c44) (fun c44 => ?_)
            refine lv_iload_n hx hb dX4_best_47 rfl (lv_at hl 2 rfl) ?_
            refine lv_iconst (v := -1) hx hb dX4_best_48 (by decide) ?_
            refine r_icmp_eqP hx hb (x := bsS dc dl ge su (lef pa mk i n) d k) (by intro j9 h9; have := bsS_lt _ _ _ _ _ _ _ _ h9; omega) (tgt := 62) dX4_best_49 (by decide) (fun c49 => ?_) (fun j49 c49 => ?_)
            · have hl := lv_re (f := fun z9 => [(5, .int (nI 1)), (4, .int (nI k)), (3, .int z9), (0, .ref (g 0)), (1, .int (nI i)), (2, .int (nI d))]) hl (show eP (bsS dc dl ge su (lef pa mk i n) d k) = eP none from congrArg eP c49)
              refine lv_iload hx hb dX4_best_62 (lv_at hl 1 rfl) ?_
              refine lv_goto (tgt := 68) hx hb dX4_best_64 (by decide) ?_
              refine lv_istore_n (lv' := [(3, .int (nI k)), (5, .int (nI 1)), (4, .int (nI k)), (0, .ref (g 0)), (1, .int (nI i)), (2, .int (nI d))]) hx hb dX4_best_68 rfl hl (by decide) rfl (fun ls hl => ?_)
              refine lv_iinc (v := nI (k + 1)) (lv' := [(4, .int (nI (k + 1))), (3, .int (nI k)), (5, .int (nI 1)), (0, .ref (g 0)), (1, .int (nI i)), (2, .int (nI d))]) hx hb dX4_best_69 hl (k := 2) rfl (nI_1 _) (by decide) rfl (fun ls hl => ?_)
              refine lv_goto (tgt := 5) hx hb dX4_best_72 (by decide) ?_
              have hl := lv_re (f := fun z9 => [(4, .int (nI (k + 1))), (3, .int z9), (5, .int (nI 1)), (0, .ref (g 0)), (1, .int (nI i)), (2, .int (nI d))]) hl (show nI k = eP (bsS dc dl ge su (lef pa mk i n) d (k + 1)) from congrArg eP (show some k = (bsS dc dl ge su (lef pa mk i n) d (k + 1)) from by show _ = bsp dc dl ge su (lef pa mk i n) d k (bsS dc dl ge su (lef pa mk i n) d k); simp [bsp, c11, c22, c32, c44, c49]))
              exact ih5 (k + 1) (by first | assumption | omega) (by omega)  ls  (lv_sub hl [0, 1, 3, 4, 5] rfl)
            · have hl := lv_re (f := fun z9 => [(5, .int (nI 1)), (4, .int (nI k)), (3, .int z9), (0, .ref (g 0)), (1, .int (nI i)), (2, .int (nI d))]) hl (show eP (bsS dc dl ge su (lef pa mk i n) d k) = nI j49 from congrArg eP c49)
              have e52 := bsS_lt _ _ _ _ _ _ _ _ c49
              refine lv_aload_n hx hb dX4_best_52 rfl (lv_at hl 3 rfl) ?_
              refine lv_iload hx hb dX4_best_53 (lv_at hl 1 rfl) ?_
              refine lv_iload_n hx hb dX4_best_55 rfl (lv_at hl 2 rfl) ?_
              refine r_cV (As := [.int (nI k), .int (nI j49)]) (rest := []) ⟨hx, hb, hml, hown, hts⟩ (cX4_isBetter_ok l D ct g n dc pa va dl ge su mk dp sq tc kp la k j49 (by first | assumption | omega) (by first | assumption | omega) (by first | assumption | omega)) (cwV 2 hts gX4_best_X4_isBetter rfl rfl rfl (by decide +kernel) ⟨Nat.le_of_ble_eq_true rfl, Nat.le_of_ble_eq_true rfl⟩) hK (hP.sub (ws' := wM ct g n dc pa va dl ge su mk dp sq tc kp la) [0, 1, 2, 3, 4, 5, 6, 7, 8, 9, 10, 11] rfl) 0 4 rfl rfl rfl hl.1 rfl (Nat.le_of_ble_eq_true rfl) dX4_best_56 ⟨Nat.le_of_ble_eq_true rfl, Nat.le_of_ble_eq_true rfl⟩ ?_
              refine r_if_eqB (x := btr dl ge su k j49) (tgt := 67) hx hb dX4_best_59 (by decide) (fun c59 => ?_) (fun c59 => ?_)
              · refine lv_iload_n hx hb dX4_best_67 rfl (lv_at hl 2 rfl) ?_
                refine lv_istore_n (lv' := [(3, .int (nI j49)), (5, .int (nI 1)), (4, .int (nI k)), (0, .ref (g 0)), (1, .int (nI i)), (2, .int (nI d))]) hx hb dX4_best_68 rfl hl (by decide) rfl (fun ls hl => ?_)
                refine lv_iinc (v := nI (k + 1)) (lv' := [(4, .int (nI (k + 1))), (3, .int (nI j49)), (5, .int (nI 1)), (0, .ref (g 0)), (1, .int (nI i)), (2, .int (nI d))]) hx hb dX4_best_69 hl (k := 2) rfl (nI_1 _) (by decide) rfl (fun ls hl => ?_)
                refine lv_goto (tgt := 5) hx hb dX4_best_72 (by decide) ?_
                have hl := lv_re (f := fun z9 => [(4, .int (nI (k + 1))), (3, .int z9), (5, .int (nI 1)), (0, .ref (g 0)), (1, .int (nI i)), (2, .int (nI d))]) hl (show nI j49 = eP (bsS dc dl ge su (lef pa mk i n) d (k + 1)) from congrArg eP (show some j49 = (bsS dc dl ge su (lef pa mk i n) d (k + 1)) from by show _ = bsp dc dl ge su (lef pa mk i n) d k (bsS dc dl ge su (lef pa mk i n) d k); simp [bsp, c11, c22, c32, c44, c49, c59]))
                exact ih5 (k + 1) (by first | assumption | omega) (by omega)  ls  (lv_sub hl [0, 1, 3, 4, 5] rfl)
              · refine lv_iload hx hb dX4_best_62 (lv_at hl 1 rfl) ?_
                refine lv_goto (tgt := 68) hx hb dX4_best_64 (by decide) ?_
                refine lv_istore_n (lv' := [(3, .int (nI k)), (5, .int (nI 1)), (4, .int (nI k)), (0, .ref (g 0)), (1, .int (nI i)), (2, .int (nI d))]) hx hb dX4_best_68 rfl hl (by decide) rfl (fun ls hl => ?_)
                refine lv_iinc (v := nI (k + 1)) (lv' := [(4, .int (nI (k + 1))), (3, .int (nI k)), (5, .int (nI 1)), (0, .ref (g 0)), (1, .int (nI i)), (2, .int (nI d))]) hx hb dX4_best_69 hl (k := 2) rfl (nI_1 _) (by decide) rfl (fun ls hl => ?_)
                refine lv_goto (tgt := 5) hx hb dX4_best_72 (by decide) ?_
                have hl := lv_re (f := fun z9 => [(4, .int (nI (k + 1))), (3, .int z9), (5, .int (nI 1)), (0, .ref (g 0)), (1, .int (nI i)), (2, .int (nI d))]) hl (show nI k = eP (bsS dc dl ge su (lef pa mk i n) d (k + 1)) from congrArg eP (show some k = (bsS dc dl ge su (lef pa mk i n) d (k + 1)) from by show _ = bsp dc dl ge su (lef pa mk i n) d k (bsS dc dl ge su (lef pa mk i n) d k); simp [bsp, c11, c22, c32, c44, c49, c59]))
                exact ih5 (k + 1) (by first | assumption | omega) (by omega)  ls  (lv_sub hl [0, 1, 3, 4, 5] rfl)
  have hl := lv_re (f := fun z9 => [(4, .int (nI 0)), (3, .int z9), (0, .ref (g 0)), (1, .int (nI i)), (2, .int (nI d))]) hl (show eP none = eP (bsS dc dl ge su (lef pa mk i n) d 0) from congrArg eP (show none = (bsS dc dl ge su (lef pa mk i n) d 0) from rfl))
  exact key5 ((n - 0) + 1) 0 (by first | assumption | omega) (Nat.lt_succ_self _)  ls  (lv_sub hl [0, 1, 2, 3, 4] rfl)
set_option maxHeartbeats 8000000 in
set_option maxRecDepth 100000 in
theorem cX4_isDeep_ok (l : Launch) (D : va_G) (ct : Nat → ClassId) (g : Nat → Nat) (n : Nat) (dc : Nat → Nat) (pa : Nat → Option Nat) (va : Nat → Int32) (dl : Nat → Bool) (ge : Nat → Nat) (su : Nat → Int32) (mk : Nat → Bool) (dp : Nat → Int32) (sq : Nat → Int32) (tc : Nat → Int32) (kp : Nat → Int32) (la : Int32) (i : Nat) (r : Nat) (hn : n ≤ 150) (hTg : ∀ k, ge k ≤ 150) (hTp : ∀ k j, k < n → pa k = some j → j < k) (hi : i < 3) (hrn : r < n) : Met l yX4_isDeep wsX4_isDeep ({ frames := 3, cells := 0, slots := 0, locals := 69 } : Room) (roPc D ct [.ref (g 0), .int (nI i), .int (nI r)] (wM ct g n dc pa va dl ge su mk dp sq tc kp la)) (rqI (bI (dep pa mk ge dp i n r))) 0 0 (fun _ => False) := by
  refine Met.ofW (cc := cX4_isDeep) (maxL := 5) (ret := (some .boolean)) (by decide) rfl ?_
  intro p e s m args below meth c s₁ B hml hv
  obtain ⟨rfl, hP, hK⟩ := hv
  have hx := B.exec
  have hb := B.bytes
  have hr := B.returns
  have hts := atoms_spec (ws := wsX4_isDeep) B.pre
  have hown : s.vm.findClass RX4 = some m.cls := findClass_of_methodNamed B.named
  have hlocks := B.notSynchronized
  have hl := lv_entry ([.ref (g 0), .int (nI i), .int (nI r)]) (n := 5) (Nat.le_of_ble_eq_true rfl)
  rw [lg_entry_eq]
  generalize (lg_sl ([.ref (g 0), .int (nI i), .int (nI r)]) ++ List.replicate (5 - (lg_sl ([.ref (g 0), .int (nI i), .int (nI r)])).length) Slot.unset).toArray = ls at hl ⊢
  have hl : lv_has ls 5 [(0, .ref (g 0)), (1, .int (nI i)), (2, .int (nI r))] := hl
  refine lv_iconst (v := nI 0) hx hb dX4_isDeep_0 (by decide) ?_
  refine lv_istore_n (lv' := [(3, .int (nI 0)), (0, .ref (g 0)), (1, .int (nI i)), (2, .int (nI r))]) hx hb dX4_isDeep_1 rfl hl (by decide) rfl (fun ls hl => ?_)
  refine lv_iload_n hx hb dX4_isDeep_2 rfl (lv_at hl 3 rfl) ?_
  refine lv_iconst (v := nI 1) hx hb dX4_isDeep_3 (by decide) ?_
  refine r_iaddN hx hb dX4_isDeep_4 ?_
  refine lv_istore (lv' := [(4, .int (nI (r + 1))), (3, .int (nI 0)), (0, .ref (g 0)), (1, .int (nI i)), (2, .int (nI r))]) hx hb dX4_isDeep_5 hl (by decide) rfl (fun ls hl => ?_)
  have key7 : ∀ (d7 : Nat) (k : Nat) (hk : k ≤ n) (hno : any (dpR pa mk ge dp i n r) k = false), n - k < d7 → ∀  (ls : Array Slot), lv_has ls 5 [(4, .int (nI k)), (3, .int (bI (any (dpQ pa mk i n r) k))), (0, .ref (g 0)), (1, .int (nI i)), (2, .int (nI r))] → W p l e ({ frames := 3, cells := 0, slots := 0, locals := 69 } : Room) s m ([.ref (g 0), .int (nI i), .int (nI r)] : List Value).toArray below meth c s.heap [] 0 0 (MQ below (rqI (bI (dep pa mk ge dp i n r))) ([.ref (g 0), .int (nI i), .int (nI r)] : List Value).toArray s 0 0 (fun _ => False)) (F0 m 7 ls []) := by
    intro d7
    induction d7 with
    | zero => intro k hk hno h9; exact absurd h9 (Nat.not_lt_zero _)
    | succ d7 ih7 =>
      intro k hk hno hm7  ls  hl
      refine lv_iload hx hb dX4_isDeep_7 (lv_at hl 0 rfl) ?_
      refine lv_aload_n hx hb dX4_isDeep_9 rfl (lv_at hl 2 rfl) ?_
      refine va_get (D := D) (ci := 4) (v := .int (nI n)) (C := RX4) (T := TX4) (N := 13) hx hb hts (fun _ h => List.mem_cons_of_mem _ (List.mem_append_right _ h)) hown hK.1 hP 0 rfl rfl 6 (by decide) (hts (.fieldLink RX4 52 "RevisionStoresModel" "revisions" "I") (List.mem_of_getElem? (i := 1) rfl)) (fun _ h9 => h9) rfl dX4_isDeep_10 ?_
      refine r_icmp_geN hx hb (x := k) (y := n) (by first | omega | decide) (by first | omega | decide) (tgt := 69) dX4_isDeep_13 (by decide) (fun c13 => ?_) (fun c13 => ?_)
      · refine lv_iload_n hx hb dX4_isDeep_69 rfl (lv_at hl 1 rfl) ?_
        refine r_top (y := bI (dep pa mk ge dp i n r)) (congrArg bI (show (any (dpQ pa mk i n r) k) = (dep pa mk ge dp i n r) from by first | (rw [dep, any_hit (P := dpR pa mk ge dp i n r) (n := n) (k := k) (by omega) (by simp [dpR, dpQ, c13])]; simp; done) | (obtain rfl : k = n := (by omega); simp [dep, hno]))) ?_
        exact W.zret hx hb hr (bI_narrow _) (fun t ht hW => ⟨_, rfl, rfl, ht⟩) (fun _ h => by cases h) dX4_isDeep_70
      · refine lv_aload_n hx hb dX4_isDeep_16 rfl (lv_at hl 2 rfl) ?_
        refine lv_iload_n hx hb dX4_isDeep_17 rfl (lv_at hl 4 rfl) ?_
        refine lv_iload hx hb dX4_isDeep_18 (lv_at hl 0 rfl) ?_
        refine r_cV (As := [.int (nI r), .int (nI k)]) (rest := []) ⟨hx, hb, hml, hown, hts⟩ (cX4_isAncestor_ok l D ct g n dc pa va dl ge su mk dp sq tc kp la r k (by first | assumption | omega) (by first | assumption | omega) (by first | assumption | omega) (by first | assumption | omega)) (cwV 2 hts gX4_isDeep_X4_isAncestor rfl rfl rfl (by decide +kernel) ⟨Nat.le_of_ble_eq_true rfl, Nat.le_of_ble_eq_true rfl⟩) hK (hP.sub (ws' := wM ct g n dc pa va dl ge su mk dp sq tc kp la) [0, 1, 2, 3, 4, 5, 6, 7, 8, 9, 10, 11] rfl) 0 4 rfl rfl rfl hl.1 rfl (Nat.le_of_ble_eq_true rfl) dX4_isDeep_20 ⟨Nat.le_of_ble_eq_true rfl, Nat.le_of_ble_eq_true rfl⟩ ?_
        refine r_if_eqB (x := anc pa r k) (tgt := 63) hx hb dX4_isDeep_23 (by decide) (fun c23 => ?_) (fun c23 => ?_)
        · refine lv_iinc (v := nI (k + 1)) (lv' := [(4, .int (nI (k + 1))), (3, .int (bI (any (dpQ pa mk i n r) k))), (0, .ref (g 0)), (1, .int (nI i)), (2, .int (nI r))]) hx hb dX4_isDeep_63 hl (k := 0) rfl (nI_1 _) (by decide) rfl (fun ls hl => ?_)
          refine lv_goto (tgt := 7) hx hb dX4_isDeep_66 (by decide) ?_
          have hl := lv_re (f := fun z9 => [(4, .int (nI (k + 1))), (3, .int z9), (0, .ref (g 0)), (1, .int (nI i)), (2, .int (nI r))]) hl (show bI (any (dpQ pa mk i n r) k) = bI (any (dpQ pa mk i n r) (k + 1)) from congrArg bI (show (any (dpQ pa mk i n r) k) = (any (dpQ pa mk i n r) (k + 1)) from by simp [any, dpQ, c13, c23]))
          exact ih7 (k + 1) (by first | assumption | omega) (by simp [any, hno, dpR, dpQ, c13, c23]) (by omega)  ls  (lv_sub hl [0, 1, 2, 3, 4] rfl)
        · refine lv_aload_n hx hb dX4_isDeep_26 rfl (lv_at hl 2 rfl) ?_
          refine lv_iload_n hx hb dX4_isDeep_27 rfl (lv_at hl 3 rfl) ?_
          refine lv_iload hx hb dX4_isDeep_28 (lv_at hl 0 rfl) ?_
          refine r_cV (As := [.int (nI i), .int (nI k)]) (rest := []) ⟨hx, hb, hml, hown, hts⟩ (cX4_leaf_ok l D ct g n dc pa va dl ge su mk dp sq tc kp la i k (by first | assumption | omega) (by first | assumption | omega) (by first | assumption | omega) (by first | assumption | omega)) (cwV 2 hts gX4_isDeep_X4_leaf rfl rfl rfl (by decide +kernel) ⟨Nat.le_of_ble_eq_true rfl, Nat.le_of_ble_eq_true rfl⟩) hK (hP.sub (ws' := wM ct g n dc pa va dl ge su mk dp sq tc kp la) [0, 1, 2, 3, 4, 5, 6, 7, 8, 9, 10, 11] rfl) 0 4 rfl rfl rfl hl.1 rfl (Nat.le_of_ble_eq_true rfl) dX4_isDeep_30 ⟨Nat.le_of_ble_eq_true rfl, Nat.le_of_ble_eq_true rfl⟩ ?_
          refine r_if_eqB (x := lef pa mk i n k) (tgt := 63) hx hb dX4_isDeep_33 (by decide) (fun c33 => ?_) (fun c33 => ?_)
          · refine lv_iinc (v := nI (k + 1)) (lv' := [(4, .int (nI (k + 1))), (3, .int (bI (any (dpQ pa mk i n r) k))), (0, .ref (g 0)), (1, .int (nI i)), (2, .int (nI r))]) hx hb dX4_isDeep_63 hl (k := 0) rfl (nI_1 _) (by decide) rfl (fun ls hl => ?_)
            refine lv_goto (tgt := 7) hx hb dX4_isDeep_66 (by decide) ?_
            have hl := lv_re (f := fun z9 => [(4, .int (nI (k + 1))), (3, .int z9), (0, .ref (g 0)), (1, .int (nI i)), (2, .int (nI r))]) hl (show bI (any (dpQ pa mk i n r) k) = bI (any (dpQ pa mk i n r) (k + 1)) from congrArg bI (show (any (dpQ pa mk i n r) k) = (any (dpQ pa mk i n r) (k + 1)) from by simp [any, dpQ, c13, c23, c33]))
            exact ih7 (k + 1) (by first | assumption | omega) (by simp [any, hno, dpR, dpQ, c13, c23, c33]) (by omega)  ls  (lv_sub hl [0, 1, 2, 3, 4] rfl)
          · refine lv_iconst (v := nI 1) hx hb dX4_isDeep_36 (by decide) ?_
            refine lv_istore_n (lv' := [(3, .int (nI 1)), (4, .int (nI k)), (0, .ref (g 0)), (1, .int (nI i)), (2, .int (nI r))]) hx hb dX4_isDeep_37 rfl hl (by decide) rfl (fun ls hl => ?_)
            refine lv_aload_n hx hb dX4_isDeep_38 rfl (lv_at hl 2 rfl) ?_
            refine va_get (D := D) (ci := 4) (v := .ref (g 5)) (C := RX4) (T := TX4) (N := 13) hx hb hts (fun _ h => List.mem_cons_of_mem _ (List.mem_append_right _ h)) hown hK.1 hP 0 rfl rfl 4 (by decide) (hts (.fieldLink RX4 23 "RevisionStoresModel" "generations" "[I") (List.mem_of_getElem? (i := 2) rfl)) (fun _ h9 => h9) rfl dX4_isDeep_39 ?_
            refine lv_iload hx hb dX4_isDeep_42 (lv_at hl 1 rfl) ?_
            refine r_iald (j := k) (v := nI (ge k)) hx hb hK.1 hP 5 0 rfl rfl (by omega) (by first | decide | omega) rfl dX4_isDeep_44 ?_
            have f44 := hTg k
            refine lv_aload_n hx hb dX4_isDeep_45 rfl (lv_at hl 2 rfl) ?_
            refine va_get (D := D) (ci := 4) (v := .ref (g 5)) (C := RX4) (T := TX4) (N := 13) hx hb hts (fun _ h => List.mem_cons_of_mem _ (List.mem_append_right _ h)) hown hK.1 hP 0 rfl rfl 4 (by decide) (hts (.fieldLink RX4 23 "RevisionStoresModel" "generations" "[I") (List.mem_of_getElem? (i := 2) rfl)) (fun _ h9 => h9) rfl dX4_isDeep_46 ?_
            refine lv_iload_n hx hb dX4_isDeep_49 rfl (lv_at hl 4 rfl) ?_
            refine r_iald (j := r) (v := nI (ge r)) hx hb hK.1 hP 5 0 rfl rfl (by omega) (by first | decide | omega) rfl dX4_isDeep_50 ?_
            have f50 := hTg r
            refine lv_aload_n hx hb dX4_isDeep_51 rfl (lv_at hl 2 rfl) ?_
            refine va_get (D := D) (ci := 4) (v := .ref (g 8)) (C := RX4) (T := TX4) (N := 13) hx hb hts (fun _ h => List.mem_cons_of_mem _ (List.mem_append_right _ h)) hown hK.1 hP 0 rfl rfl 8 (by decide) (hts (.fieldLink RX4 32 "RevisionStoresModel" "depths" "[I") (List.mem_of_getElem? (i := 3) rfl)) (fun _ h9 => h9) rfl dX4_isDeep_52 ?_
            refine lv_iload_n hx hb dX4_isDeep_55 rfl (lv_at hl 3 rfl) ?_
            refine r_iald (j := i) (v := dp i) hx hb hK.1 hP 8 0 rfl rfl (by omega) (by first | decide | omega) rfl dX4_isDeep_56 ?_
            refine lv_iadd hx hb dX4_isDeep_57 ?_
            refine lv_icmp_ge (x := nI (ge k)) (y := (nI (ge r)) + (dp i)) (tgt := 63) hx hb dX4_isDeep_58 (by decide) (fun c58 => ?_) (fun c58 => ?_)
            · refine lv_iinc (v := nI (k + 1)) (lv' := [(4, .int (nI (k + 1))), (3, .int (nI 1)), (0, .ref (g 0)), (1, .int (nI i)), (2, .int (nI r))]) hx hb dX4_isDeep_63 hl (k := 1) rfl (nI_1 _) (by decide) rfl (fun ls hl => ?_)
              refine lv_goto (tgt := 7) hx hb dX4_isDeep_66 (by decide) ?_
              have hl := lv_re (f := fun z9 => [(4, .int (nI (k + 1))), (3, .int z9), (0, .ref (g 0)), (1, .int (nI i)), (2, .int (nI r))]) hl (show nI 1 = bI (any (dpQ pa mk i n r) (k + 1)) from congrArg bI (show true = (any (dpQ pa mk i n r) (k + 1)) from by simp [any, dpQ, c13, c23, c33, c58]))
              exact ih7 (k + 1) (by first | assumption | omega) (by simp [any, hno, dpR, dpQ, c13, c23, c33, c58]) (by omega)  ls  (lv_sub hl [0, 1, 2, 3, 4] rfl)
            · refine lv_iconst (v := nI 0) hx hb dX4_isDeep_61 (by decide) ?_
              refine r_top (y := bI (dep pa mk ge dp i n r)) (congrArg bI (show false = (dep pa mk ge dp i n r) from by first | (rw [dep, any_hit (P := dpR pa mk ge dp i n r) (n := n) (k := k) (by omega) (by simp [dpR, dpQ, c13, c23, c33, c58])]; simp; done) | (obtain rfl : k = n := (by omega); simp [dep, hno]))) ?_
              exact W.zret hx hb hr (bI_narrow _) (fun t ht hW => ⟨_, rfl, rfl, ht⟩) (fun _ h => by cases h) dX4_isDeep_62
  have hl := lv_re (f := fun z9 => [(4, .int (nI (r + 1))), (3, .int z9), (0, .ref (g 0)), (1, .int (nI i)), (2, .int (nI r))]) hl (show nI 0 = bI (any (dpQ pa mk i n r) (r + 1)) from congrArg bI (show false = (any (dpQ pa mk i n r) (r + 1)) from (dpQ_0 _ _ _ _ _).symm))
  exact key7 ((n - (r + 1)) + 1) (r + 1) (by first | assumption | omega) (dpR_0 _ _ _ _ _ _ _) (Nat.lt_succ_self _)  ls  (lv_sub hl [0, 1, 2, 3, 4] rfl)
set_option maxHeartbeats 8000000 in
set_option maxRecDepth 100000 in
theorem cX4_stems_ok (l : Launch) (D : va_G) (ct : Nat → ClassId) (g : Nat → Nat) (n : Nat) (dc : Nat → Nat) (pa : Nat → Option Nat) (va : Nat → Int32) (dl : Nat → Bool) (ge : Nat → Nat) (su : Nat → Int32) (mk : Nat → Bool) (dp : Nat → Int32) (sq : Nat → Int32) (tc : Nat → Int32) (kp : Nat → Int32) (la : Int32) (i : Nat) (hn : n ≤ 150) (hTg : ∀ k, ge k ≤ 150) (hTp : ∀ k j, k < n → pa k = some j → j < k) (hi : i < 3) (sz : Nat) : Met l yX4_stems wsX4_stems ({ frames := 4, cells := 0, slots := 0, locals := 93 } : Room) (wrPc D ct [.ref (g 0), .int (nI i)] (wM ct g n dc pa va dl ge su mk dp sq tc kp la) sz) (wqI D (nI ((smS pa ge dp i n mk n).1)) (wM ct g n dc pa va dl ge su ((smS pa ge dp i n mk n).2) dp sq tc kp la) (va_A (wM ct g n dc pa va dl ge su mk dp sq tc kp la) sz)) 0 0 (va_A (wM ct g n dc pa va dl ge su mk dp sq tc kp la) sz) := by
  refine Met.ofW (cc := cX4_stems) (maxL := 4) (ret := (some .int)) (by decide) rfl ?_
  intro p e s m args below meth c s₁ B hml hv
  obtain ⟨rfl, hsz, hP, hK, hD0⟩ := hv
  have hx := B.exec
  have hb := B.bytes
  have hr := B.returns
  have hts := atoms_spec (ws := wsX4_stems) B.pre
  have hown : s.vm.findClass RX4 = some m.cls := findClass_of_methodNamed B.named
  have hlocks := B.notSynchronized
  subst hsz
  have hD := hD0.self (sz := s.heap.size)
  generalize hAe : va_A (wM ct g n dc pa va dl ge su mk dp sq tc kp la) s.heap.size = A at hD ⊢
  have hA : ∀ q : Nat, s.heap.size ≤ q → A q := fun q h => by rw [← hAe]; exact Or.inr h
  have hS : va_S A s.heap s.heap [] := va_S.rf
  have hP : va_P D vwCl (wM ct g n dc pa va dl ge su mk dp sq tc kp la) s.heap := hP
  clear hAe hD0
  have hl := lv_entry ([.ref (g 0), .int (nI i)]) (n := 4) (Nat.le_of_ble_eq_true rfl)
  rw [lg_entry_eq]
  generalize (lg_sl ([.ref (g 0), .int (nI i)]) ++ List.replicate (4 - (lg_sl ([.ref (g 0), .int (nI i)])).length) Slot.unset).toArray = ls at hl ⊢
  have hl : lv_has ls 4 [(0, .ref (g 0)), (1, .int (nI i))] := hl
  have hH0 : s.heap.size ≤ s.heap.size := Nat.le_refl _
  refine lv_iconst (v := nI 0) hx hb dX4_stems_0 (by decide) ?_
  refine lv_istore_n (lv' := [(2, .int (nI 0)), (0, .ref (g 0)), (1, .int (nI i))]) hx hb dX4_stems_1 rfl hl (by decide) rfl (fun ls hl => ?_)
  refine lv_iconst (v := nI 0) hx hb dX4_stems_2 (by decide) ?_
  refine lv_istore_n (lv' := [(3, .int (nI 0)), (2, .int (nI 0)), (0, .ref (g 0)), (1, .int (nI i))]) hx hb dX4_stems_3 rfl hl (by decide) rfl (fun ls hl => ?_)
  have key4 : ∀ (d4 : Nat) (k : Nat) (hk : k ≤ n), n - k < d4 → ∀ (H : Heap) (locs : List Loc) (ls : Array Slot), va_P D vwCl (wM ct g n dc pa va dl ge su ((smS pa ge dp i n mk k).2) dp sq tc kp la) H → va_D A (wM ct g n dc pa va dl ge su ((smS pa ge dp i n mk k).2) dp sq tc kp la) → va_S A s.heap H locs → lv_has ls 4 [(3, .int (nI k)), (2, .int (nI ((smS pa ge dp i n mk k).1))), (0, .ref (g 0)), (1, .int (nI i))] → W p l e ({ frames := 4, cells := 0, slots := 0, locals := 93 } : Room) s m ([.ref (g 0), .int (nI i)] : List Value).toArray below meth c H locs 0 0 (MQ below (wqI D (nI ((smS pa ge dp i n mk n).1)) (wM ct g n dc pa va dl ge su ((smS pa ge dp i n mk n).2) dp sq tc kp la) A) ([.ref (g 0), .int (nI i)] : List Value).toArray s 0 0 A) (F0 m 4 ls []) := by
    intro d4
    induction d4 with
    | zero => intro k hk h9; exact absurd h9 (Nat.not_lt_zero _)
    | succ d4 ih4 =>
      intro k hk hm4 H locs ls hP hD hS hl
      refine lv_iload_n hx hb dX4_stems_4 rfl (lv_at hl 0 rfl) ?_
      refine lv_aload_n hx hb dX4_stems_5 rfl (lv_at hl 2 rfl) ?_
      refine va_get (D := D) (ci := 4) (v := .int (nI n)) (C := RX4) (T := TX4) (N := 13) hx hb hts (fun _ h => List.mem_cons_of_mem _ (List.mem_append_right _ h)) hown hK.1 hP 0 rfl rfl 6 (by decide) (hts (.fieldLink RX4 52 "RevisionStoresModel" "revisions" "I") (List.mem_of_getElem? (i := 1) rfl)) (fun _ h9 => h9) rfl dX4_stems_6 ?_
      refine r_icmp_geN hx hb (x := k) (y := n) (by first | omega | decide) (by first | omega | decide) (tgt := 58) dX4_stems_9 (by decide) (fun c9 => ?_) (fun c9 => ?_)
      · refine lv_iload_n hx hb dX4_stems_58 rfl (lv_at hl 1 rfl) ?_
        refine r_top (y := nI ((smS pa ge dp i n mk n).1)) (congrArg nI (show ((smS pa ge dp i n mk k).1) = ((smS pa ge dp i n mk n).1) from by rw [show k = n by omega])) ?_
        have e9 : ((smS pa ge dp i n mk k).2) = ((smS pa ge dp i n mk n).2) := by rw [show k = n by omega]
        have hP := (congrArg (fun z9 => va_P D vwCl (wM ct g n dc pa va dl ge su z9 dp sq tc kp la) H) e9).mp hP
        have hP : va_P D vwCl (wM ct g n dc pa va dl ge su ((smS pa ge dp i n mk n).2) dp sq tc kp la) H := hP
        exact W.iret hx hb hr (fun t ht hW => ⟨⟨_, (), rfl, rfl, by show va_P D vwCl _ t.heap; rw [ht]; exact hP⟩, hS.F ht⟩) hS.2.2 dX4_stems_59
      · refine lv_aload_n hx hb dX4_stems_12 rfl (lv_at hl 2 rfl) ?_
        refine va_get (D := D) (ci := 4) (v := .ref (g 7)) (C := RX4) (T := TX4) (N := 13) hx hb hts (fun _ h => List.mem_cons_of_mem _ (List.mem_append_right _ h)) hown hK.1 hP 0 rfl rfl 7 (by decide) (hts (.fieldLink RX4 29 "RevisionStoresModel" "marks" "[Z") (List.mem_of_getElem? (i := 2) rfl)) (fun _ h9 => h9) rfl dX4_stems_13 ?_
        refine lv_sipush (v := nI 150) hx hb dX4_stems_16 (by decide) ?_
        refine lv_iload_n hx hb dX4_stems_19 rfl (lv_at hl 3 rfl) ?_
        refine r_imulN hx hb dX4_stems_20 ?_
        refine lv_iload_n hx hb dX4_stems_21 rfl (lv_at hl 0 rfl) ?_
        refine r_iaddN hx hb dX4_stems_22 ?_
        refine r_zald (j := (150 * i) + k) (v := bI (((smS pa ge dp i n mk k).2) ((150 * i) + k))) hx hb hK.1 hP 7 1 rfl rfl (by omega) (by first | decide | omega) rfl dX4_stems_23 ?_
        refine r_if_eqB (x := ((smS pa ge dp i n mk k).2) ((150 * i) + k)) (tgt := 52) hx hb dX4_stems_24 (by decide) (fun c24 => ?_) (fun c24 => ?_)
        · refine lv_iinc (v := nI (k + 1)) (lv' := [(3, .int (nI (k + 1))), (2, .int (nI ((smS pa ge dp i n mk k).1))), (0, .ref (g 0)), (1, .int (nI i))]) hx hb dX4_stems_52 hl (k := 0) rfl (nI_1 _) (by decide) rfl (fun ls hl => ?_)
          refine lv_goto (tgt := 4) hx hb dX4_stems_55 (by decide) ?_
          have hl := lv_re (f := fun z9 => [(3, .int (nI (k + 1))), (2, .int z9), (0, .ref (g 0)), (1, .int (nI i))]) hl (show nI ((smS pa ge dp i n mk k).1) = nI ((smS pa ge dp i n mk (k + 1)).1) from congrArg nI (show ((smS pa ge dp i n mk k).1) = ((smS pa ge dp i n mk (k + 1)).1) from by first | (rw [smS_t c24 c33]; done) | exact congrArg Prod.fst (smS_f (by simp [c9, c24])).symm))
          have e9 : ((smS pa ge dp i n mk k).2) = ((smS pa ge dp i n mk (k + 1)).2) := by first | (rw [smS_t c24 c33]; done) | exact congrArg Prod.snd (smS_f (by simp [c9, c24])).symm
          have hP := (congrArg (fun z9 => va_P D vwCl (wM ct g n dc pa va dl ge su z9 dp sq tc kp la) H) e9).mp hP
          have hD := (congrArg (fun z9 => va_D A (wM ct g n dc pa va dl ge su z9 dp sq tc kp la)) e9).mp hD
          have hP : va_P D vwCl (wM ct g n dc pa va dl ge su ((smS pa ge dp i n mk (k + 1)).2) dp sq tc kp la) H := hP
          have hD : va_D A (wM ct g n dc pa va dl ge su ((smS pa ge dp i n mk (k + 1)).2) dp sq tc kp la) := hD
          exact ih4 (k + 1) (by first | assumption | omega) (by omega) H locs ls hP hD hS (lv_sub hl [0, 1, 2, 3] rfl)
        · refine lv_aload_n hx hb dX4_stems_27 rfl (lv_at hl 2 rfl) ?_
          refine lv_iload_n hx hb dX4_stems_28 rfl (lv_at hl 3 rfl) ?_
          refine lv_iload_n hx hb dX4_stems_29 rfl (lv_at hl 0 rfl) ?_
          refine r_cV (As := [.int (nI i), .int (nI k)]) (rest := []) ⟨hx, hb, hml, hown, hts⟩ (cX4_isDeep_ok l D ct g n dc pa va dl ge su ((smS pa ge dp i n mk k).2) dp sq tc kp la i k (by first | assumption | omega) (by first | assumption | omega) (by first | assumption | omega) (by first | assumption | omega) (by first | assumption | omega)) (cwV 2 hts gX4_stems_X4_isDeep rfl rfl rfl (by decide +kernel) ⟨Nat.le_of_ble_eq_true rfl, Nat.le_of_ble_eq_true rfl⟩) hK (hP.sub (ws' := wM ct g n dc pa va dl ge su ((smS pa ge dp i n mk k).2) dp sq tc kp la) [0, 1, 2, 3, 4, 5, 6, 7, 8, 9, 10, 11] rfl) 0 4 rfl rfl rfl hl.1 rfl (Nat.le_of_ble_eq_true rfl) dX4_stems_30 ⟨Nat.le_of_ble_eq_true rfl, Nat.le_of_ble_eq_true rfl⟩ ?_
          refine r_if_eqB (x := dep pa ((smS pa ge dp i n mk k).2) ge dp i n k) (tgt := 52) hx hb dX4_stems_33 (by decide) (fun c33 => ?_) (fun c33 => ?_)
          · refine lv_iinc (v := nI (k + 1)) (lv' := [(3, .int (nI (k + 1))), (2, .int (nI ((smS pa ge dp i n mk k).1))), (0, .ref (g 0)), (1, .int (nI i))]) hx hb dX4_stems_52 hl (k := 0) rfl (nI_1 _) (by decide) rfl (fun ls hl => ?_)
            refine lv_goto (tgt := 4) hx hb dX4_stems_55 (by decide) ?_
            have hl := lv_re (f := fun z9 => [(3, .int (nI (k + 1))), (2, .int z9), (0, .ref (g 0)), (1, .int (nI i))]) hl (show nI ((smS pa ge dp i n mk k).1) = nI ((smS pa ge dp i n mk (k + 1)).1) from congrArg nI (show ((smS pa ge dp i n mk k).1) = ((smS pa ge dp i n mk (k + 1)).1) from by first | (rw [smS_t c24 c33]; done) | exact congrArg Prod.fst (smS_f (by simp [c9, c24, c33])).symm))
            have e9 : ((smS pa ge dp i n mk k).2) = ((smS pa ge dp i n mk (k + 1)).2) := by first | (rw [smS_t c24 c33]; done) | exact congrArg Prod.snd (smS_f (by simp [c9, c24, c33])).symm
            have hP := (congrArg (fun z9 => va_P D vwCl (wM ct g n dc pa va dl ge su z9 dp sq tc kp la) H) e9).mp hP
            have hD := (congrArg (fun z9 => va_D A (wM ct g n dc pa va dl ge su z9 dp sq tc kp la)) e9).mp hD
            have hP : va_P D vwCl (wM ct g n dc pa va dl ge su ((smS pa ge dp i n mk (k + 1)).2) dp sq tc kp la) H := hP
            have hD : va_D A (wM ct g n dc pa va dl ge su ((smS pa ge dp i n mk (k + 1)).2) dp sq tc kp la) := hD
            exact ih4 (k + 1) (by first | assumption | omega) (by omega) H locs ls hP hD hS (lv_sub hl [0, 1, 2, 3] rfl)
          · refine lv_aload_n hx hb dX4_stems_36 rfl (lv_at hl 2 rfl) ?_
            refine va_get (D := D) (ci := 4) (v := .ref (g 7)) (C := RX4) (T := TX4) (N := 13) hx hb hts (fun _ h => List.mem_cons_of_mem _ (List.mem_append_right _ h)) hown hK.1 hP 0 rfl rfl 7 (by decide) (hts (.fieldLink RX4 29 "RevisionStoresModel" "marks" "[Z") (List.mem_of_getElem? (i := 2) rfl)) (fun _ h9 => h9) rfl dX4_stems_37 ?_
            refine lv_sipush (v := nI 150) hx hb dX4_stems_40 (by decide) ?_
            refine lv_iload_n hx hb dX4_stems_43 rfl (lv_at hl 3 rfl) ?_
            refine r_imulN hx hb dX4_stems_44 ?_
            refine lv_iload_n hx hb dX4_stems_45 rfl (lv_at hl 0 rfl) ?_
            refine r_iaddN hx hb dX4_stems_46 ?_
            refine lv_iconst (v := nI 0) hx hb dX4_stems_47 (by decide) ?_
            refine r_zast (j := (150 * i) + k) (x := false) (f' := fun q9 => bI ((va_up ((smS pa ge dp i n mk k).2) ((150 * i) + k) false) q9)) hx hb hK.1 hP hD hS 7 1 rfl rfl (by omega) (by first | decide | omega) (up_b _ _ _) dX4_stems_48 (fun H locs hP hD hS => ?_)
            have hP : va_P D vwCl (wM ct g n dc pa va dl ge su (va_up ((smS pa ge dp i n mk k).2) ((150 * i) + k) false) dp sq tc kp la) H := hP
            have hD : va_D A (wM ct g n dc pa va dl ge su (va_up ((smS pa ge dp i n mk k).2) ((150 * i) + k) false) dp sq tc kp la) := hD
            refine lv_iinc (v := nI ((smS pa ge dp i n mk k).1 + 1)) (lv' := [(2, .int (nI ((smS pa ge dp i n mk k).1 + 1))), (3, .int (nI k)), (0, .ref (g 0)), (1, .int (nI i))]) hx hb dX4_stems_49 hl (k := 1) rfl (nI_1 _) (by decide) rfl (fun ls hl => ?_)
            refine lv_iinc (v := nI (k + 1)) (lv' := [(3, .int (nI (k + 1))), (2, .int (nI ((smS pa ge dp i n mk k).1 + 1))), (0, .ref (g 0)), (1, .int (nI i))]) hx hb dX4_stems_52 hl (k := 1) rfl (nI_1 _) (by decide) rfl (fun ls hl => ?_)
            refine lv_goto (tgt := 4) hx hb dX4_stems_55 (by decide) ?_
            have hl := lv_re (f := fun z9 => [(3, .int (nI (k + 1))), (2, .int z9), (0, .ref (g 0)), (1, .int (nI i))]) hl (show nI ((smS pa ge dp i n mk k).1 + 1) = nI ((smS pa ge dp i n mk (k + 1)).1) from congrArg nI (show ((smS pa ge dp i n mk k).1 + 1) = ((smS pa ge dp i n mk (k + 1)).1) from by first | (rw [smS_t c24 c33]; done) | exact congrArg Prod.fst (smS_f (by simp [c9, c24, c33])).symm))
            have e9 : (va_up ((smS pa ge dp i n mk k).2) ((150 * i) + k) false) = ((smS pa ge dp i n mk (k + 1)).2) := by first | (rw [smS_t c24 c33]; done) | exact congrArg Prod.snd (smS_f (by simp [c9, c24, c33])).symm
            have hP := (congrArg (fun z9 => va_P D vwCl (wM ct g n dc pa va dl ge su z9 dp sq tc kp la) H) e9).mp hP
            have hD := (congrArg (fun z9 => va_D A (wM ct g n dc pa va dl ge su z9 dp sq tc kp la)) e9).mp hD
            have hP : va_P D vwCl (wM ct g n dc pa va dl ge su ((smS pa ge dp i n mk (k + 1)).2) dp sq tc kp la) H := hP
            have hD : va_D A (wM ct g n dc pa va dl ge su ((smS pa ge dp i n mk (k + 1)).2) dp sq tc kp la) := hD
            exact ih4 (k + 1) (by first | assumption | omega) (by omega) H locs ls hP hD hS (lv_sub hl [0, 1, 2, 3] rfl)
  have hl := lv_re (f := fun z9 => [(3, .int (nI 0)), (2, .int z9), (0, .ref (g 0)), (1, .int (nI i))]) hl (show nI 0 = nI ((smS pa ge dp i n mk 0).1) from congrArg nI (show 0 = ((smS pa ge dp i n mk 0).1) from rfl))
  have e9 : mk = ((smS pa ge dp i n mk 0).2) := rfl
  have hP := (congrArg (fun z9 => va_P D vwCl (wM ct g n dc pa va dl ge su z9 dp sq tc kp la) s.heap) e9).mp hP
  have hD := (congrArg (fun z9 => va_D A (wM ct g n dc pa va dl ge su z9 dp sq tc kp la)) e9).mp hD
  have hP : va_P D vwCl (wM ct g n dc pa va dl ge su ((smS pa ge dp i n mk 0).2) dp sq tc kp la) s.heap := hP
  have hD : va_D A (wM ct g n dc pa va dl ge su ((smS pa ge dp i n mk 0).2) dp sq tc kp la) := hD
  exact key4 ((n - 0) + 1) 0 (by first | assumption | omega) (Nat.lt_succ_self _) _ _ ls hP hD hS (lv_sub hl [0, 1, 2, 3] rfl)
set_option maxHeartbeats 8000000 in
set_option maxRecDepth 100000 in
theorem cX4_touches_ok (l : Launch) (D : va_G) (ct : Nat → ClassId) (g : Nat → Nat) (n : Nat) (dc : Nat → Nat) (pa : Nat → Option Nat) (va : Nat → Int32) (dl : Nat → Bool) (ge : Nat → Nat) (su : Nat → Int32) (mk : Nat → Bool) (dp : Nat → Int32) (sq : Nat → Int32) (tc : Nat → Int32) (kp : Nat → Int32) (la : Int32) (i : Nat) (d : Nat) (hi : i < 3) (hd4 : d < 4) (sz : Nat) : Met l yX4_touches wsX4_touches ({ frames := 0, cells := 0, slots := 0, locals := 0 } : Room) (wrPc D ct [.ref (g 0), .int (nI i), .int (nI d)] (wM ct g n dc pa va dl ge su mk dp sq tc kp la) sz) (wqV D (wM ct g n dc pa va dl ge su mk dp (va_up sq i (sq i + nI 1)) (va_up tc ((4 * i) + d) (sq i + nI 1)) kp la) (va_A (wM ct g n dc pa va dl ge su mk dp sq tc kp la) sz)) 0 0 (va_A (wM ct g n dc pa va dl ge su mk dp sq tc kp la) sz) := by
  refine Met.ofW (cc := cX4_touches) (maxL := 3) (ret := none) (by decide) rfl ?_
  intro p e s m args below meth c s₁ B hml hv
  obtain ⟨rfl, hsz, hP, hK, hD0⟩ := hv
  have hx := B.exec
  have hb := B.bytes
  have hr := B.returns
  have hts := atoms_spec (ws := wsX4_touches) B.pre
  have hown : s.vm.findClass RX4 = some m.cls := findClass_of_methodNamed B.named
  have hlocks := B.notSynchronized
  subst hsz
  have hD := hD0.self (sz := s.heap.size)
  generalize hAe : va_A (wM ct g n dc pa va dl ge su mk dp sq tc kp la) s.heap.size = A at hD ⊢
  have hA : ∀ q : Nat, s.heap.size ≤ q → A q := fun q h => by rw [← hAe]; exact Or.inr h
  have hS : va_S A s.heap s.heap [] := va_S.rf
  have hP : va_P D vwCl (wM ct g n dc pa va dl ge su mk dp sq tc kp la) s.heap := hP
  clear hAe hD0
  have hl := lv_entry ([.ref (g 0), .int (nI i), .int (nI d)]) (n := 3) (Nat.le_of_ble_eq_true rfl)
  rw [lg_entry_eq]
  generalize (lg_sl ([.ref (g 0), .int (nI i), .int (nI d)]) ++ List.replicate (3 - (lg_sl ([.ref (g 0), .int (nI i), .int (nI d)])).length) Slot.unset).toArray = ls at hl ⊢
  have hl : lv_has ls 3 [(0, .ref (g 0)), (1, .int (nI i)), (2, .int (nI d))] := hl
  have hH0 : s.heap.size ≤ s.heap.size := Nat.le_refl _
  refine lv_aload_n hx hb dX4_touches_0 rfl (lv_at hl 0 rfl) ?_
  refine va_get (D := D) (ci := 4) (v := .ref (g 9)) (C := RX4) (T := TX4) (N := 13) hx hb hts (fun _ h => List.mem_cons_of_mem _ (List.mem_append_right _ h)) hown hK.1 hP 0 rfl rfl 9 (by decide) (hts (.fieldLink RX4 35 "RevisionStoresModel" "sequences" "[I") (List.mem_of_getElem? (i := 1) rfl)) (fun _ h9 => h9) rfl dX4_touches_1 ?_
  refine lv_iload_n hx hb dX4_touches_4 rfl (lv_at hl 1 rfl) ?_
  refine lv_dup2_11 hx hb dX4_touches_5 rfl rfl ?_
  refine r_iald (j := i) (v := sq i) hx hb hK.1 hP 9 0 rfl rfl (by omega) (by first | decide | omega) rfl dX4_touches_6 ?_
  refine lv_iconst (v := nI 1) hx hb dX4_touches_7 (by decide) ?_
  refine lv_iadd hx hb dX4_touches_8 ?_
  refine r_iast (j := i) (x := ((sq i) + (nI 1))) (f' := va_up sq i ((sq i) + (nI 1))) hx hb hK.1 hP hD hS 9 0 rfl rfl (by omega) (by first | decide | omega) (up_i _ _ _) dX4_touches_9 (fun H locs hP hD hS => ?_)
  have hP : va_P D vwCl (wM ct g n dc pa va dl ge su mk dp (va_up sq i ((sq i) + (nI 1))) tc kp la) H := hP
  have hD : va_D A (wM ct g n dc pa va dl ge su mk dp (va_up sq i ((sq i) + (nI 1))) tc kp la) := hD
  refine lv_aload_n hx hb dX4_touches_10 rfl (lv_at hl 0 rfl) ?_
  refine va_get (D := D) (ci := 4) (v := .ref (g 10)) (C := RX4) (T := TX4) (N := 13) hx hb hts (fun _ h => List.mem_cons_of_mem _ (List.mem_append_right _ h)) hown hK.1 hP 0 rfl rfl 10 (by decide) (hts (.fieldLink RX4 38 "RevisionStoresModel" "touched" "[I") (List.mem_of_getElem? (i := 2) rfl)) (fun _ h9 => h9) rfl dX4_touches_11 ?_
  refine lv_iconst (v := nI 4) hx hb dX4_touches_14 (by decide) ?_
  refine lv_iload_n hx hb dX4_touches_15 rfl (lv_at hl 1 rfl) ?_
  refine r_imulN hx hb dX4_touches_16 ?_
  refine lv_iload_n hx hb dX4_touches_17 rfl (lv_at hl 2 rfl) ?_
  refine r_iaddN hx hb dX4_touches_18 ?_
  refine lv_aload_n hx hb dX4_touches_19 rfl (lv_at hl 0 rfl) ?_
  refine va_get (D := D) (ci := 4) (v := .ref (g 9)) (C := RX4) (T := TX4) (N := 13) hx hb hts (fun _ h => List.mem_cons_of_mem _ (List.mem_append_right _ h)) hown hK.1 hP 0 rfl rfl 9 (by decide) (hts (.fieldLink RX4 35 "RevisionStoresModel" "sequences" "[I") (List.mem_of_getElem? (i := 1) rfl)) (fun _ h9 => h9) rfl dX4_touches_20 ?_
  refine lv_iload_n hx hb dX4_touches_23 rfl (lv_at hl 1 rfl) ?_
  refine r_iald (j := i) (v := (va_up sq i ((sq i) + (nI 1))) i) hx hb hK.1 hP 9 0 rfl rfl (by omega) (by first | decide | omega) rfl dX4_touches_24 ?_
  refine r_top (y := sq i + nI 1) (by simp [va_up]) ?_
  refine r_iast (j := (4 * i) + d) (x := (sq i + nI 1)) (f' := va_up tc ((4 * i) + d) (sq i + nI 1)) hx hb hK.1 hP hD hS 10 0 rfl rfl (by omega) (by first | decide | omega) (up_i _ _ _) dX4_touches_25 (fun H locs hP hD hS => ?_)
  have hP : va_P D vwCl (wM ct g n dc pa va dl ge su mk dp (va_up sq i ((sq i) + (nI 1))) (va_up tc ((4 * i) + d) (sq i + nI 1)) kp la) H := hP
  have hD : va_D A (wM ct g n dc pa va dl ge su mk dp (va_up sq i ((sq i) + (nI 1))) (va_up tc ((4 * i) + d) (sq i + nI 1)) kp la) := hD
  have hP : va_P D vwCl (wM ct g n dc pa va dl ge su mk dp (va_up sq i (sq i + nI 1)) (va_up tc ((4 * i) + d) (sq i + nI 1)) kp la) H := hP
  exact W.vret hx hb hr (fun t ht hW => ⟨⟨(), rfl, trivial, by show va_P D vwCl _ t.heap; rw [ht]; exact hP⟩, hS.F ht⟩) hS.2.2 dX4_touches_26
