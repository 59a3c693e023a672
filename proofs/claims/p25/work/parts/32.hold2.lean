set_option maxHeartbeats 8000000 in
set_option maxRecDepth 100000 in
theorem cX0_stem_ok (l : Launch) (D : va_G) (ct : Nat → ClassId) (h : Nat → Nat) (hd : Nat → Bool) (nl : Nat → Nat) (wi : Nat → Option Nat) (a : Nat → Nat) (n : Nat) (dc : Nat → Nat) (pa : Nat → Option Nat) (va : Nat → Int32) (dl : Nat → Bool) (ge : Nat → Nat) (su : Nat → Int32) (dp : Int32) (hn : n ≤ 150) (hTg : ∀ k, ge k ≤ 150) (hNl : ∀ k, nl k ≤ 151) (sz : Nat) : Met l yX0_stem wsX0_stem ({ frames := 1, cells := 0, slots := 0, locals := 21 } : Room) (wrPc D ct [.ref (h 0), .ref (a 0), .int dp] (wH ct h hd nl wi ++ wT ct a n dc pa va dl ge su) sz) (wqI D (nI (fct (stC hd nl ge dp) n)) (wH ct h (stm hd nl ge dp n) nl wi ++ wT ct a n dc pa va dl ge su) (va_A (wH ct h hd nl wi ++ wT ct a n dc pa va dl ge su) sz)) 0 0 (va_A (wH ct h hd nl wi ++ wT ct a n dc pa va dl ge su) sz) := by
  refine Met.ofW (cc := cX0_stem) (maxL := 5) (ret := (some .int)) (by decide) rfl ?_
  intro p e s m args below meth c s₁ B hml hv
  obtain ⟨rfl, hsz, hP, hK, hD0⟩ := hv
  have hx := B.exec
  have hb := B.bytes
  have hr := B.returns
  have hts := atoms_spec (ws := wsX0_stem) B.pre
  have hown : s.vm.findClass RX0 = some m.cls := findClass_of_methodNamed B.named
  have hlocks := B.notSynchronized
  subst hsz
  have hD := hD0.self (sz := s.heap.size)
  generalize hAe : va_A (wH ct h hd nl wi ++ wT ct a n dc pa va dl ge su) s.heap.size = A at hD ⊢
  have hA : ∀ q : Nat, s.heap.size ≤ q → A q := fun q h => by rw [← hAe]; exact Or.inr h
  have hS : va_S A s.heap s.heap [] := va_S.rf
  have hP : va_P D vwCl (wH ct h hd nl wi ++ wT ct a n dc pa va dl ge su) s.heap := hP
  clear hAe hD0
  have hl := lv_entry ([.ref (h 0), .ref (a 0), .int dp]) (n := 5) (Nat.le_of_ble_eq_true rfl)
  rw [lg_entry_eq]
  generalize (lg_sl ([.ref (h 0), .ref (a 0), .int dp]) ++ List.replicate (5 - (lg_sl ([.ref (h 0), .ref (a 0), .int dp])).length) Slot.unset).toArray = ls at hl ⊢
  have hl : lv_has ls 5 [(0, .ref (h 0)), (1, .ref (a 0)), (2, .int dp)] := hl
  have hH0 : s.heap.size ≤ s.heap.size := Nat.le_refl _
  refine lv_iconst (v := nI 0) hx hb dX0_stem_0 (by decide) ?_
  refine lv_istore_n (lv' := [(3, .int (nI 0)), (0, .ref (h 0)), (1, .ref (a 0)), (2, .int dp)]) hx hb dX0_stem_1 rfl hl (by decide) rfl (fun ls hl => ?_)
  refine lv_iconst (v := nI 0) hx hb dX0_stem_2 (by decide) ?_
  refine lv_istore (lv' := [(4, .int (nI 0)), (3, .int (nI 0)), (0, .ref (h 0)), (1, .ref (a 0)), (2, .int dp)]) hx hb dX0_stem_3 hl (by decide) rfl (fun ls hl => ?_)
  have key5 : ∀ (d5 : Nat) (k : Nat) (hk : k ≤ n), n - k < d5 → ∀ (H : Heap) (locs : List Loc) (ls : Array Slot), va_P D vwCl (wH ct h (stm hd nl ge dp k) nl wi ++ wT ct a n dc pa va dl ge su) H → va_D A (wH ct h (stm hd nl ge dp k) nl wi ++ wT ct a n dc pa va dl ge su) → va_S A s.heap H locs → lv_has ls 5 [(4, .int (nI k)), (3, .int (nI (fct (stC hd nl ge dp) k))), (0, .ref (h 0)), (1, .ref (a 0)), (2, .int dp)] → W p l e ({ frames := 1, cells := 0, slots := 0, locals := 21 } : Room) s m ([.ref (h 0), .ref (a 0), .int dp] : List Value).toArray below meth c H locs 0 0 (MQ below (wqI D (nI (fct (stC hd nl ge dp) n)) (wH ct h (stm hd nl ge dp n) nl wi ++ wT ct a n dc pa va dl ge su) A) ([.ref (h 0), .ref (a 0), .int dp] : List Value).toArray s 0 0 A) (F0 m 5 ls []) := by
    intro d5
    induction d5 with
    | zero => intro k hk h9; exact absurd h9 (Nat.not_lt_zero _)
    | succ d5 ih5 =>
      intro k hk hm5 H locs ls hP hD hS hl
      refine lv_iload hx hb dX0_stem_5 (lv_at hl 0 rfl) ?_
      refine lv_aload_n hx hb dX0_stem_7 rfl (lv_at hl 3 rfl) ?_
      refine va_getN (D := D) (ci := 2) (v := .int (nI n)) (C := RX2) (T := TX2) (N := 7) hx hb hts (fun _ h => List.mem_cons_of_mem _ (List.mem_append_left _ (List.mem_append_right _ h))) hown hK.1 hP 4 rfl rfl 6 (by decide) (va_Nw.use rfl (hK.2 _ (List.mem_of_getElem? (i := 16) rfl))) (fun _ h9 => h9) rfl dX0_stem_8 ?_
      refine r_icmp_geN hx hb (x := k) (y := n) (by first | omega | decide) (by first | omega | decide) (tgt := 69) dX0_stem_11 (by decide) (fun c11 => ?_) (fun c11 => ?_)
      · refine lv_iload_n hx hb dX0_stem_69 rfl (lv_at hl 1 rfl) ?_
        refine r_top (y := nI (fct (stC hd nl ge dp) n)) (congrArg nI (show (fct (stC hd nl ge dp) k) = (fct (stC hd nl ge dp) n) from by rw [show k = n by omega])) ?_
        have e9 : (stm hd nl ge dp k) = (stm hd nl ge dp n) := by rw [show k = n by omega]
        have hP := (congrArg (fun z9 => va_P D vwCl (wH ct h z9 nl wi ++ wT ct a n dc pa va dl ge su) H) e9).mp hP
        have hP : va_P D vwCl (wH ct h (stm hd nl ge dp n) nl wi ++ wT ct a n dc pa va dl ge su) H := hP
        exact W.iret hx hb hr (fun t ht hW => ⟨⟨_, (), rfl, rfl, by show va_P D vwCl _ t.heap; rw [ht]; exact hP⟩, hS.F ht⟩) hS.2.2 dX0_stem_70
      · refine lv_aload_n hx hb dX0_stem_14 rfl (lv_at hl 2 rfl) ?_
        refine va_get (D := D) (ci := 0) (v := .ref (h 1)) (C := RX0) (T := TX0) (N := 3) hx hb hts (fun _ h => List.mem_cons_of_mem _ (List.mem_append_right _ h)) hown hK.1 hP 0 rfl rfl 0 (by decide) (hts (.fieldLink RX0 9 "RevisionStores$Holding" "held" "[Z") (List.mem_of_getElem? (i := 1) rfl)) (fun _ h9 => h9) rfl dX0_stem_15 ?_
        refine lv_iload hx hb dX0_stem_18 (lv_at hl 0 rfl) ?_
        refine r_zald (j := k) (v := bI ((stm hd nl ge dp k) k)) hx hb hK.1 hP 1 1 rfl rfl (by omega) (by first | decide | omega) rfl dX0_stem_20 ?_
        refine r_top (y := bI (hd k)) (congrArg bI (show ((stm hd nl ge dp k) k) = (hd k) from by rw [stm_k])) ?_
        refine r_if_eqB (x := hd k) (tgt := 63) hx hb dX0_stem_21 (by decide) (fun c21 => ?_) (fun c21 => ?_)
        · refine lv_iinc (v := nI (k + 1)) (lv' := [(4, .int (nI (k + 1))), (3, .int (nI (fct (stC hd nl ge dp) k))), (0, .ref (h 0)), (1, .ref (a 0)), (2, .int dp)]) hx hb dX0_stem_63 hl (k := 0) rfl (nI_1 _) (by decide) rfl (fun ls hl => ?_)
          refine lv_goto (tgt := 5) hx hb dX0_stem_66 (by decide) ?_
          have hl := lv_re (f := fun z9 => [(4, .int (nI (k + 1))), (3, .int z9), (0, .ref (h 0)), (1, .ref (a 0)), (2, .int dp)]) hl (show nI (fct (stC hd nl ge dp) k) = nI (fct (stC hd nl ge dp) (k + 1)) from congrArg nI (show (fct (stC hd nl ge dp) k) = (fct (stC hd nl ge dp) (k + 1)) from by simp [fct, stC, c11, c21]))
          have e9 : (stm hd nl ge dp k) = (stm hd nl ge dp (k + 1)) := by first | exact stm_t (by simp [stC, c11, c21]) | exact stm_f (by simp [stC, c11, c21])
          have hP := (congrArg (fun z9 => va_P D vwCl (wH ct h z9 nl wi ++ wT ct a n dc pa va dl ge su) H) e9).mp hP
          have hD := (congrArg (fun z9 => va_D A (wH ct h z9 nl wi ++ wT ct a n dc pa va dl ge su)) e9).mp hD
          have hP : va_P D vwCl (wH ct h (stm hd nl ge dp (k + 1)) nl wi ++ wT ct a n dc pa va dl ge su) H := hP
          have hD : va_D A (wH ct h (stm hd nl ge dp (k + 1)) nl wi ++ wT ct a n dc pa va dl ge su) := hD
          exact ih5 (k + 1) (by first | assumption | omega) (by omega) H locs ls hP hD hS (lv_sub hl [0, 1, 2, 3, 4] rfl)
        · refine lv_aload_n hx hb dX0_stem_24 rfl (lv_at hl 2 rfl) ?_
          refine lv_iload hx hb dX0_stem_25 (lv_at hl 0 rfl) ?_
          refine r_cV (As := [.int (nI k)]) (rest := []) ⟨hx, hb, hml, hown, hts⟩ (cX0_hasDescendantOf_ok l D ct h (stm hd nl ge dp k) nl wi k (by first | assumption | omega) (hNl _)) (cwV 1 hts gX0_stem_X0_hasDescendantOf rfl rfl rfl (by decide +kernel) ⟨Nat.le_of_ble_eq_true rfl, Nat.le_of_ble_eq_true rfl⟩) hK (hP.sub (ws' := wH ct h (stm hd nl ge dp k) nl wi) [0, 1, 2, 3] rfl) 0 0 rfl rfl rfl hl.1 rfl (Nat.le_of_ble_eq_true rfl) dX0_stem_27 ⟨Nat.le_of_ble_eq_true rfl, Nat.le_of_ble_eq_true rfl⟩ ?_
          refine r_if_eqB (x := hasD nl k) (tgt := 63) hx hb dX0_stem_30 (by decide) (fun c30 => ?_) (fun c30 => ?_)
          · refine lv_iinc (v := nI (k + 1)) (lv' := [(4, .int (nI (k + 1))), (3, .int (nI (fct (stC hd nl ge dp) k))), (0, .ref (h 0)), (1, .ref (a 0)), (2, .int dp)]) hx hb dX0_stem_63 hl (k := 0) rfl (nI_1 _) (by decide) rfl (fun ls hl => ?_)
            refine lv_goto (tgt := 5) hx hb dX0_stem_66 (by decide) ?_
            have hl := lv_re (f := fun z9 => [(4, .int (nI (k + 1))), (3, .int z9), (0, .ref (h 0)), (1, .ref (a 0)), (2, .int dp)]) hl (show nI (fct (stC hd nl ge dp) k) = nI (fct (stC hd nl ge dp) (k + 1)) from congrArg nI (show (fct (stC hd nl ge dp) k) = (fct (stC hd nl ge dp) (k + 1)) from by simp [fct, stC, c11, c21, c30]))
            have e9 : (stm hd nl ge dp k) = (stm hd nl ge dp (k + 1)) := by first | exact stm_t (by simp [stC, c11, c21, c30]) | exact stm_f (by simp [stC, c11, c21, c30])
            have hP := (congrArg (fun z9 => va_P D vwCl (wH ct h z9 nl wi ++ wT ct a n dc pa va dl ge su) H) e9).mp hP
            have hD := (congrArg (fun z9 => va_D A (wH ct h z9 nl wi ++ wT ct a n dc pa va dl ge su)) e9).mp hD
            have hP : va_P D vwCl (wH ct h (stm hd nl ge dp (k + 1)) nl wi ++ wT ct a n dc pa va dl ge su) H := hP
            have hD : va_D A (wH ct h (stm hd nl ge dp (k + 1)) nl wi ++ wT ct a n dc pa va dl ge su) := hD
            exact ih5 (k + 1) (by first | assumption | omega) (by omega) H locs ls hP hD hS (lv_sub hl [0, 1, 2, 3, 4] rfl)
          · refine lv_aload_n hx hb dX0_stem_33 rfl (lv_at hl 2 rfl) ?_
            refine va_get (D := D) (ci := 0) (v := .ref (h 2)) (C := RX0) (T := TX0) (N := 3) hx hb hts (fun _ h => List.mem_cons_of_mem _ (List.mem_append_right _ h)) hown hK.1 hP 0 rfl rfl 1 (by decide) (hts (.fieldLink RX0 15 "RevisionStores$Holding" "nearestLeaf" "[I") (List.mem_of_getElem? (i := 2) rfl)) (fun _ h9 => h9) rfl dX0_stem_34 ?_
            refine lv_iload hx hb dX0_stem_37 (lv_at hl 0 rfl) ?_
            refine r_iald (j := k) (v := nI (nl k)) hx hb hK.1 hP 2 0 rfl rfl (by omega) (by first | decide | omega) rfl dX0_stem_39 ?_
            have f39 := hNl k
            refine lv_aload_n hx hb dX0_stem_40 rfl (lv_at hl 3 rfl) ?_
            refine va_getN (D := D) (ci := 2) (v := .ref (a 5)) (C := RX2) (T := TX2) (N := 7) hx hb hts (fun _ h => List.mem_cons_of_mem _ (List.mem_append_left _ (List.mem_append_right _ h))) hown hK.1 hP 4 rfl rfl 4 (by decide) (va_Nw.use rfl (hK.2 _ (List.mem_of_getElem? (i := 18) rfl))) (fun _ h9 => h9) rfl dX0_stem_41 ?_
            refine lv_iload hx hb dX0_stem_44 (lv_at hl 0 rfl) ?_
            refine r_iald (j := k) (v := nI (ge k)) hx hb hK.1 hP 9 0 rfl rfl (by omega) (by first | decide | omega) rfl dX0_stem_46 ?_
            have f46 := hTg k
            refine lv_isub hx hb dX0_stem_47 ?_
            refine lv_iload_n hx hb dX0_stem_48 rfl (lv_at hl 4 rfl) ?_
            refine lv_icmp_lt (x := (nI (nl k)) - (nI (ge k))) (y := dp) (tgt := 63) hx hb dX0_stem_49 (by decide) (fun c49 => ?_) (fun c49 => ?_)
            · refine lv_iinc (v := nI (k + 1)) (lv' := [(4, .int (nI (k + 1))), (3, .int (nI (fct (stC hd nl ge dp) k))), (0, .ref (h 0)), (1, .ref (a 0)), (2, .int dp)]) hx hb dX0_stem_63 hl (k := 0) rfl (nI_1 _) (by decide) rfl (fun ls hl => ?_)
              refine lv_goto (tgt := 5) hx hb dX0_stem_66 (by decide) ?_
              have hl := lv_re (f := fun z9 => [(4, .int (nI (k + 1))), (3, .int z9), (0, .ref (h 0)), (1, .ref (a 0)), (2, .int dp)]) hl (show nI (fct (stC hd nl ge dp) k) = nI (fct (stC hd nl ge dp) (k + 1)) from congrArg nI (show (fct (stC hd nl ge dp) k) = (fct (stC hd nl ge dp) (k + 1)) from by simp [fct, stC, c11, c21, c30, c49]))
              have e9 : (stm hd nl ge dp k) = (stm hd nl ge dp (k + 1)) := by first | exact stm_t (by simp [stC, c11, c21, c30, c49]) | exact stm_f (by simp [stC, c11, c21, c30, c49])
              have hP := (congrArg (fun z9 => va_P D vwCl (wH ct h z9 nl wi ++ wT ct a n dc pa va dl ge su) H) e9).mp hP
              have hD := (congrArg (fun z9 => va_D A (wH ct h z9 nl wi ++ wT ct a n dc pa va dl ge su)) e9).mp hD
              have hP : va_P D vwCl (wH ct h (stm hd nl ge dp (k + 1)) nl wi ++ wT ct a n dc pa va dl ge su) H := hP
              have hD : va_D A (wH ct h (stm hd nl ge dp (k + 1)) nl wi ++ wT ct a n dc pa va dl ge su) := hD
              exact ih5 (k + 1) (by first | assumption | omega) (by omega) H locs ls hP hD hS (lv_sub hl [0, 1, 2, 3, 4] rfl)
            · refine lv_aload_n hx hb dX0_stem_52 rfl (lv_at hl 2 rfl) ?_
              refine va_get (D := D) (ci := 0) (v := .ref (h 1)) (C := RX0) (T := TX0) (N := 3) hx hb hts (fun _ h => List.mem_cons_of_mem _ (List.mem_append_right _ h)) hown hK.1 hP 0 rfl rfl 0 (by decide) (hts (.fieldLink RX0 9 "RevisionStores$Holding" "held" "[Z") (List.mem_of_getElem? (i := 1) rfl)) (fun _ h9 => h9) rfl dX0_stem_53 ?_
              refine lv_iload hx hb dX0_stem_56 (lv_at hl 0 rfl) ?_
              refine lv_iconst (v := nI 0) hx hb dX0_stem_58 (by decide) ?_
              refine r_zast (j := k) (x := false) (f' := fun q9 => bI ((va_up (stm hd nl ge dp k) k false) q9)) hx hb hK.1 hP hD hS 1 1 rfl rfl (by omega) (by first | decide | omega) (up_b _ _ _) dX0_stem_59 (fun H locs hP hD hS => ?_)
              have hP : va_P D vwCl (wH ct h (va_up (stm hd nl ge dp k) k false) nl wi ++ wT ct a n dc pa va dl ge su) H := hP
              have hD : va_D A (wH ct h (va_up (stm hd nl ge dp k) k false) nl wi ++ wT ct a n dc pa va dl ge su) := hD
              refine lv_iinc (v := nI (fct (stC hd nl ge dp) k + 1)) (lv' := [(3, .int (nI (fct (stC hd nl ge dp) k + 1))), (4, .int (nI k)), (0, .ref (h 0)), (1, .ref (a 0)), (2, .int dp)]) hx hb dX0_stem_60 hl (k := 1) rfl (nI_1 _) (by decide) rfl (fun ls hl => ?_)
              refine lv_iinc (v := nI (k + 1)) (lv' := [(4, .int (nI (k + 1))), (3, .int (nI (fct (stC hd nl ge dp) k + 1))), (0, .ref (h 0)), (1, .ref (a 0)), (2, .int dp)]) hx hb dX0_stem_63 hl (k := 1) rfl (nI_1 _) (by decide) rfl (fun ls hl => ?_)
              refine lv_goto (tgt := 5) hx hb dX0_stem_66 (by decide) ?_
              have hl := lv_re (f := fun z9 => [(4, .int (nI (k + 1))), (3, .int z9), (0, .ref (h 0)), (1, .ref (a 0)), (2, .int dp)]) hl (show nI (fct (stC hd nl ge dp) k + 1) = nI (fct (stC hd nl ge dp) (k + 1)) from congrArg nI (show (fct (stC hd nl ge dp) k + 1) = (fct (stC hd nl ge dp) (k + 1)) from by simp [fct, stC, c11, c21, c30, c49]))
              have e9 : (va_up (stm hd nl ge dp k) k false) = (stm hd nl ge dp (k + 1)) := by first | exact stm_t (by simp [stC, c11, c21, c30, c49]) | exact stm_f (by simp [stC, c11, c21, c30, c49])
              have hP := (congrArg (fun z9 => va_P D vwCl (wH ct h z9 nl wi ++ wT ct a n dc pa va dl ge su) H) e9).mp hP
              have hD := (congrArg (fun z9 => va_D A (wH ct h z9 nl wi ++ wT ct a n dc pa va dl ge su)) e9).mp hD
              have hP : va_P D vwCl (wH ct h (stm hd nl ge dp (k + 1)) nl wi ++ wT ct a n dc pa va dl ge su) H := hP
              have hD : va_D A (wH ct h (stm hd nl ge dp (k + 1)) nl wi ++ wT ct a n dc pa va dl ge su) := hD
              exact ih5 (k + 1) (by first | assumption | omega) (by omega) H locs ls hP hD hS (lv_sub hl [0, 1, 2, 3, 4] rfl)
  have e9 : hd = (stm hd nl ge dp 0) := stm_0 _ _ _ _
  have hP := (congrArg (fun z9 => va_P D vwCl (wH ct h z9 nl wi ++ wT ct a n dc pa va dl ge su) s.heap) e9).mp hP
  have hD := (congrArg (fun z9 => va_D A (wH ct h z9 nl wi ++ wT ct a n dc pa va dl ge su)) e9).mp hD
  have hP : va_P D vwCl (wH ct h (stm hd nl ge dp 0) nl wi ++ wT ct a n dc pa va dl ge su) s.heap := hP
  have hD : va_D A (wH ct h (stm hd nl ge dp 0) nl wi ++ wT ct a n dc pa va dl ge su) := hD
  exact key5 ((n - 0) + 1) 0 (by first | assumption | omega) (Nat.lt_succ_self _) _ _ ls hP hD hS (lv_sub hl [0, 1, 2, 3, 4] rfl)
set_option maxHeartbeats 8000000 in
set_option maxRecDepth 100000 in
theorem cX0_removeAll_ok (l : Launch) (D : va_G) (ct : Nat → ClassId) (h : Nat → Nat) (hd : Nat → Bool) (nl : Nat → Nat) (wi : Nat → Option Nat)  (sz : Nat) : Met l yX0_removeAll wsX0_removeAll ({ frames := 0, cells := 0, slots := 0, locals := 0 } : Room) (wrPc D ct [.ref (h 0)] (wH ct h hd nl wi) sz) (wqV D (wH ct h (rem hd 150) nl wi) (va_A (wH ct h hd nl wi) sz)) 0 0 (va_A (wH ct h hd nl wi) sz) := by
  refine Met.ofW (cc := cX0_removeAll) (maxL := 2) (ret := none) (by decide) rfl ?_
  intro p e s m args below meth c s₁ B hml hv
  obtain ⟨rfl, hsz, hP, hK, hD0⟩ := hv
  have hx := B.exec
  have hb := B.bytes
  have hr := B.returns
  have hts := atoms_spec (ws := wsX0_removeAll) B.pre
  have hown : s.vm.findClass RX0 = some m.cls := findClass_of_methodNamed B.named
  have hlocks := B.notSynchronized
  subst hsz
  have hD := hD0.self (sz := s.heap.size)
  generalize hAe : va_A (wH ct h hd nl wi) s.heap.size = A at hD ⊢
  have hA : ∀ q : Nat, s.heap.size ≤ q → A q := fun q h => by rw [← hAe]; exact Or.inr h
  have hS : va_S A s.heap s.heap [] := va_S.rf
  have hP : va_P D vwCl (wH ct h hd nl wi) s.heap := hP
  clear hAe hD0
  have hl := lv_entry ([.ref (h 0)]) (n := 2) (Nat.le_of_ble_eq_true rfl)
  rw [lg_entry_eq]
  generalize (lg_sl ([.ref (h 0)]) ++ List.replicate (2 - (lg_sl ([.ref (h 0)])).length) Slot.unset).toArray = ls at hl ⊢
  have hl : lv_has ls 2 [(0, .ref (h 0))] := hl
  have hH0 : s.heap.size ≤ s.heap.size := Nat.le_refl _
  refine lv_iconst (v := nI 0) hx hb dX0_removeAll_0 (by decide) ?_
  refine lv_istore_n (lv' := [(1, .int (nI 0)), (0, .ref (h 0))]) hx hb dX0_removeAll_1 rfl hl (by decide) rfl (fun ls hl => ?_)
  have key2 : ∀ (d2 : Nat) (k : Nat) (hk : k ≤ 150), 150 - k < d2 → ∀ (H : Heap) (locs : List Loc) (ls : Array Slot), va_P D vwCl (wH ct h (rem hd k) nl wi) H → va_D A (wH ct h (rem hd k) nl wi) → va_S A s.heap H locs → lv_has ls 2 [(1, .int (nI k)), (0, .ref (h 0))] → W p l e ({ frames := 0, cells := 0, slots := 0, locals := 0 } : Room) s m ([.ref (h 0)] : List Value).toArray below meth c H locs 0 0 (MQ below (wqV D (wH ct h (rem hd 150) nl wi) A) ([.ref (h 0)] : List Value).toArray s 0 0 A) (F0 m 2 ls []) := by
    intro d2
    induction d2 with
    | zero => intro k hk h9; exact absurd h9 (Nat.not_lt_zero _)
    | succ d2 ih2 =>
      intro k hk hm2 H locs ls hP hD hS hl
      refine lv_iload_n hx hb dX0_removeAll_2 rfl (lv_at hl 0 rfl) ?_
      refine lv_sipush (v := nI 150) hx hb dX0_removeAll_3 (by decide) ?_
      refine r_icmp_geN hx hb (x := k) (y := 150) (by first | omega | decide) (by first | omega | decide) (tgt := 22) dX0_removeAll_6 (by decide) (fun c6 => ?_) (fun c6 => ?_)
      · have e9 : (rem hd k) = (rem hd 150) := by rw [show k = 150 by omega]
        have hP := (congrArg (fun z9 => va_P D vwCl (wH ct h z9 nl wi) H) e9).mp hP
        have hP : va_P D vwCl (wH ct h (rem hd 150) nl wi) H := hP
        exact W.vret hx hb hr (fun t ht hW => ⟨⟨(), rfl, trivial, by show va_P D vwCl _ t.heap; rw [ht]; exact hP⟩, hS.F ht⟩) hS.2.2 dX0_removeAll_22
      · refine lv_aload_n hx hb dX0_removeAll_9 rfl (lv_at hl 1 rfl) ?_
        refine va_get (D := D) (ci := 0) (v := .ref (h 1)) (C := RX0) (T := TX0) (N := 3) hx hb hts (fun _ h => List.mem_cons_of_mem _ (List.mem_append_right _ h)) hown hK.1 hP 0 rfl rfl 0 (by decide) (hts (.fieldLink RX0 9 "RevisionStores$Holding" "held" "[Z") (List.mem_of_getElem? (i := 1) rfl)) (fun _ h9 => h9) rfl dX0_removeAll_10 ?_
        refine lv_iload_n hx hb dX0_removeAll_13 rfl (lv_at hl 0 rfl) ?_
        refine lv_iconst (v := nI 0) hx hb dX0_removeAll_14 (by decide) ?_
        refine r_zast (j := k) (x := false) (f' := fun q9 => bI ((va_up (rem hd k) k false) q9)) hx hb hK.1 hP hD hS 1 1 rfl rfl (by omega) (by first | decide | omega) (up_b _ _ _) dX0_removeAll_15 (fun H locs hP hD hS => ?_)
        have hP : va_P D vwCl (wH ct h (va_up (rem hd k) k false) nl wi) H := hP
        have hD : va_D A (wH ct h (va_up (rem hd k) k false) nl wi) := hD
        refine lv_iinc (v := nI (k + 1)) (lv' := [(1, .int (nI (k + 1))), (0, .ref (h 0))]) hx hb dX0_removeAll_16 hl (k := 0) rfl (nI_1 _) (by decide) rfl (fun ls hl => ?_)
        refine lv_goto (tgt := 2) hx hb dX0_removeAll_19 (by decide) ?_
        have e9 : (va_up (rem hd k) k false) = (rem hd (k + 1)) := rem_s _ _
        have hP := (congrArg (fun z9 => va_P D vwCl (wH ct h z9 nl wi) H) e9).mp hP
        have hD := (congrArg (fun z9 => va_D A (wH ct h z9 nl wi)) e9).mp hD
        have hP : va_P D vwCl (wH ct h (rem hd (k + 1)) nl wi) H := hP
        have hD : va_D A (wH ct h (rem hd (k + 1)) nl wi) := hD
        exact ih2 (k + 1) (by first | assumption | omega) (by omega) H locs ls hP hD hS (lv_sub hl [0, 1] rfl)
  have e9 : hd = (rem hd 0) := rem_0 _
  have hP := (congrArg (fun z9 => va_P D vwCl (wH ct h z9 nl wi) s.heap) e9).mp hP
  have hD := (congrArg (fun z9 => va_D A (wH ct h z9 nl wi)) e9).mp hD
  have hP : va_P D vwCl (wH ct h (rem hd 0) nl wi) s.heap := hP
  have hD : va_D A (wH ct h (rem hd 0) nl wi) := hD
  exact key2 ((150 - 0) + 1) 0 (by first | assumption | omega) (Nat.lt_succ_self _) _ _ ls hP hD hS (lv_sub hl [0, 1] rfl)
set_option maxHeartbeats 8000000 in
set_option maxRecDepth 100000 in
theorem cX0_addAll_ok (l : Launch) (D : va_G) (ct : Nat → ClassId) (h : Nat → Nat) (hd : Nat → Bool) (nl : Nat → Nat) (wi : Nat → Option Nat) (a : Nat → Nat) (n : Nat) (dc : Nat → Nat) (pa : Nat → Option Nat) (va : Nat → Int32) (dl : Nat → Bool) (ge : Nat → Nat) (su : Nat → Int32) (g : Nat → Nat) (hd2 : Nat → Bool) (nl2 : Nat → Nat) (wi2 : Nat → Option Nat) (hn : n ≤ 150) (sz : Nat) : Met l yX0_addAll wsX0_addAll ({ frames := 0, cells := 0, slots := 0, locals := 0 } : Room) (wrPc D ct [.ref (h 0), .ref (a 0), .ref (g 0)] (wH ct h hd nl wi ++ wT ct a n dc pa va dl ge su ++ wH ct g hd2 nl2 wi2) sz) (wqV D (wH ct h (uni hd hd2 n) nl wi ++ wT ct a n dc pa va dl ge su ++ wH ct g hd2 nl2 wi2) (va_A (wH ct h hd nl wi ++ wT ct a n dc pa va dl ge su ++ wH ct g hd2 nl2 wi2) sz)) 0 0 (va_A (wH ct h hd nl wi ++ wT ct a n dc pa va dl ge su ++ wH ct g hd2 nl2 wi2) sz) := by
  refine Met.ofW (cc := cX0_addAll) (maxL := 4) (ret := none) (by decide) rfl ?_
  intro p e s m args below meth c s₁ B hml hv
  obtain ⟨rfl, hsz, hP, hK, hD0⟩ := hv
  have hx := B.exec
  have hb := B.bytes
  have hr := B.returns
  have hts := atoms_spec (ws := wsX0_addAll) B.pre
  have hown : s.vm.findClass RX0 = some m.cls := findClass_of_methodNamed B.named
  have hlocks := B.notSynchronized
  subst hsz
  have hD := hD0.self (sz := s.heap.size)
  generalize hAe : va_A (wH ct h hd nl wi ++ wT ct a n dc pa va dl ge su ++ wH ct g hd2 nl2 wi2) s.heap.size = A at hD ⊢
  have hA : ∀ q : Nat, s.heap.size ≤ q → A q := fun q h => by rw [← hAe]; exact Or.inr h
  have hS : va_S A s.heap s.heap [] := va_S.rf
  have hP : va_P D vwCl (wH ct h hd nl wi ++ wT ct a n dc pa va dl ge su ++ wH ct g hd2 nl2 wi2) s.heap := hP
  clear hAe hD0
  have hl := lv_entry ([.ref (h 0), .ref (a 0), .ref (g 0)]) (n := 4) (Nat.le_of_ble_eq_true rfl)
  rw [lg_entry_eq]
  generalize (lg_sl ([.ref (h 0), .ref (a 0), .ref (g 0)]) ++ List.replicate (4 - (lg_sl ([.ref (h 0), .ref (a 0), .ref (g 0)])).length) Slot.unset).toArray = ls at hl ⊢
  have hl : lv_has ls 4 [(0, .ref (h 0)), (1, .ref (a 0)), (2, .ref (g 0))] := hl
  have hH0 : s.heap.size ≤ s.heap.size := Nat.le_refl _
  refine lv_iconst (v := nI 0) hx hb dX0_addAll_0 (by decide) ?_
  refine lv_istore_n (lv' := [(3, .int (nI 0)), (0, .ref (h 0)), (1, .ref (a 0)), (2, .ref (g 0))]) hx hb dX0_addAll_1 rfl hl (by decide) rfl (fun ls hl => ?_)
  have key2 : ∀ (d2 : Nat) (k : Nat) (hk : k ≤ n), n - k < d2 → ∀ (H : Heap) (locs : List Loc) (ls : Array Slot), va_P D vwCl (wH ct h (uni hd hd2 k) nl wi ++ wT ct a n dc pa va dl ge su ++ wH ct g hd2 nl2 wi2) H → va_D A (wH ct h (uni hd hd2 k) nl wi ++ wT ct a n dc pa va dl ge su ++ wH ct g hd2 nl2 wi2) → va_S A s.heap H locs → lv_has ls 4 [(3, .int (nI k)), (0, .ref (h 0)), (1, .ref (a 0)), (2, .ref (g 0))] → W p l e ({ frames := 0, cells := 0, slots := 0, locals := 0 } : Room) s m ([.ref (h 0), .ref (a 0), .ref (g 0)] : List Value).toArray below meth c H locs 0 0 (MQ below (wqV D (wH ct h (uni hd hd2 n) nl wi ++ wT ct a n dc pa va dl ge su ++ wH ct g hd2 nl2 wi2) A) ([.ref (h 0), .ref (a 0), .ref (g 0)] : List Value).toArray s 0 0 A) (F0 m 2 ls []) := by
    intro d2
    induction d2 with
    | zero => intro k hk h9; exact absurd h9 (Nat.not_lt_zero _)
    | succ d2 ih2 =>
      intro k hk hm2 H locs ls hP hD hS hl
      refine lv_iload_n hx hb dX0_addAll_2 rfl (lv_at hl 0 rfl) ?_
      refine lv_aload_n hx hb dX0_addAll_3 rfl (lv_at hl 2 rfl) ?_
      refine va_getN (D := D) (ci := 2) (v := .int (nI n)) (C := RX2) (T := TX2) (N := 7) hx hb hts (fun _ h => List.mem_cons_of_mem _ (List.mem_append_left _ (List.mem_append_right _ h))) hown hK.1 hP 4 rfl rfl 6 (by decide) (va_Nw.use rfl (hK.2 _ (List.mem_of_getElem? (i := 16) rfl))) (fun _ h9 => h9) rfl dX0_addAll_4 ?_
      refine r_icmp_geN hx hb (x := k) (y := n) (by first | omega | decide) (by first | omega | decide) (tgt := 45) dX0_addAll_7 (by decide) (fun c7 => ?_) (fun c7 => ?_)
      · have e9 : (uni hd hd2 k) = (uni hd hd2 n) := by rw [show k = n by omega]
        have hP := (congrArg (fun z9 => va_P D vwCl (wH ct h z9 nl wi ++ wT ct a n dc pa va dl ge su ++ wH ct g hd2 nl2 wi2) H) e9).mp hP
        have hP : va_P D vwCl (wH ct h (uni hd hd2 n) nl wi ++ wT ct a n dc pa va dl ge su ++ wH ct g hd2 nl2 wi2) H := hP
        exact W.vret hx hb hr (fun t ht hW => ⟨⟨(), rfl, trivial, by show va_P D vwCl _ t.heap; rw [ht]; exact hP⟩, hS.F ht⟩) hS.2.2 dX0_addAll_45
      · refine lv_aload_n hx hb dX0_addAll_10 rfl (lv_at hl 1 rfl) ?_
        refine va_get (D := D) (ci := 0) (v := .ref (h 1)) (C := RX0) (T := TX0) (N := 3) hx hb hts (fun _ h => List.mem_cons_of_mem _ (List.mem_append_right _ h)) hown hK.1 hP 0 rfl rfl 0 (by decide) (hts (.fieldLink RX0 9 "RevisionStores$Holding" "held" "[Z") (List.mem_of_getElem? (i := 1) rfl)) (fun _ h9 => h9) rfl dX0_addAll_11 ?_
        refine lv_iload_n hx hb dX0_addAll_14 rfl (lv_at hl 0 rfl) ?_
        refine lv_aload_n hx hb dX0_addAll_15 rfl (lv_at hl 1 rfl) ?_
        refine va_get (D := D) (ci := 0) (v := .ref (h 1)) (C := RX0) (T := TX0) (N := 3) hx hb hts (fun _ h => List.mem_cons_of_mem _ (List.mem_append_right _ h)) hown hK.1 hP 0 rfl rfl 0 (by decide) (hts (.fieldLink RX0 9 "RevisionStores$Holding" "held" "[Z") (List.mem_of_getElem? (i := 1) rfl)) (fun _ h9 => h9) rfl dX0_addAll_16 ?_
        refine lv_iload_n hx hb dX0_addAll_19 rfl (lv_at hl 0 rfl) ?_
        refine r_zald (j := k) (v := bI ((uni hd hd2 k) k)) hx hb hK.1 hP 1 1 rfl rfl (by omega) (by first | decide | omega) rfl dX0_addAll_20 ?_
        refine r_top (y := bI (hd k)) (congrArg bI (show ((uni hd hd2 k) k) = (hd k) from by rw [uni_k])) ?_
        refine r_if_neB (x := hd k) (tgt := 33) hx hb dX0_addAll_21 (by decide) (fun c21 => ?_) (fun c21 => ?_)
        · refine lv_iconst (v := nI 1) hx hb dX0_addAll_33 (by decide) ?_
          refine lv_goto (tgt := 38) hx hb dX0_addAll_34 (by decide) ?_
          refine r_top (y := bI (hd k || hd2 k)) (congrArg bI (show true = (hd k || hd2 k) from by simp [bI, c7, c21])) ?_
          refine r_zast (j := k) (x := (hd k || hd2 k)) (f' := fun q9 => bI ((va_up (uni hd hd2 k) k (hd k || hd2 k)) q9)) hx hb hK.1 hP hD hS 1 1 rfl rfl (by omega) (by first | decide | omega) (up_b _ _ _) dX0_addAll_38 (fun H locs hP hD hS => ?_)
          have hP : va_P D vwCl (wH ct h (va_up (uni hd hd2 k) k (hd k || hd2 k)) nl wi ++ wT ct a n dc pa va dl ge su ++ wH ct g hd2 nl2 wi2) H := hP
          have hD : va_D A (wH ct h (va_up (uni hd hd2 k) k (hd k || hd2 k)) nl wi ++ wT ct a n dc pa va dl ge su ++ wH ct g hd2 nl2 wi2) := hD
          refine lv_iinc (v := nI (k + 1)) (lv' := [(3, .int (nI (k + 1))), (0, .ref (h 0)), (1, .ref (a 0)), (2, .ref (g 0))]) hx hb dX0_addAll_39 hl (k := 0) rfl (nI_1 _) (by decide) rfl (fun ls hl => ?_)
          refine lv_goto (tgt := 2) hx hb dX0_addAll_42 (by decide) ?_
          have e9 : (va_up (uni hd hd2 k) k (hd k || hd2 k)) = (uni hd hd2 (k + 1)) := uni_s _ _ _
          have hP := (congrArg (fun z9 => va_P D vwCl (wH ct h z9 nl wi ++ wT ct a n dc pa va dl ge su ++ wH ct g hd2 nl2 wi2) H) e9).mp hP
          have hD := (congrArg (fun z9 => va_D A (wH ct h z9 nl wi ++ wT ct a n dc pa va dl ge su ++ wH ct g hd2 nl2 wi2)) e9).mp hD
          have hP : va_P D vwCl (wH ct h (uni hd hd2 (k + 1)) nl wi ++ wT ct a n dc pa va dl ge su ++ wH ct g hd2 nl2 wi2) H := hP
          have hD : va_D A (wH ct h (uni hd hd2 (k + 1)) nl wi ++ wT ct a n dc pa va dl ge su ++ wH ct g hd2 nl2 wi2) := hD
          exact ih2 (k + 1) (by first | assumption | omega) (by omega) H locs ls hP hD hS (lv_sub hl [0, 1, 2, 3] rfl)
        · refine lv_aload_n hx hb dX0_addAll_24 rfl (lv_at hl 3 rfl) ?_
          refine va_get (D := D) (ci := 0) (v := .ref (g 1)) (C := RX0) (T := TX0) (N := 3) hx hb hts (fun _ h => List.mem_cons_of_mem _ (List.mem_append_right _ h)) hown hK.1 hP 11 rfl rfl 0 (by decide) (hts (.fieldLink RX0 9 "RevisionStores$Holding" "held" "[Z") (List.mem_of_getElem? (i := 1) rfl)) (fun _ h9 => h9) rfl dX0_addAll_25 ?_
          refine lv_iload_n hx hb dX0_addAll_28 rfl (lv_at hl 0 rfl) ?_
          refine r_zald (j := k) (v := bI (hd2 k)) hx hb hK.1 hP 12 1 rfl rfl (by omega) (by first | decide | omega) rfl dX0_addAll_29 ?_
          refine r_if_eqB (x := hd2 k) (tgt := 37) hx hb dX0_addAll_30 (by decide) (fun c30 => ?_) (fun c30 => ?_)
          · refine lv_iconst (v := nI 0) hx hb dX0_addAll_37 (by decide) ?_
            refine r_top (y := bI (hd k || hd2 k)) (congrArg bI (show false = (hd k || hd2 k) from by simp [bI, c7, c21, c30])) ?_
            refine r_zast (j := k) (x := (hd k || hd2 k)) (f' := fun q9 => bI ((va_up (uni hd hd2 k) k (hd k || hd2 k)) q9)) hx hb hK.1 hP hD hS 1 1 rfl rfl (by omega) (by first | decide | omega) (up_b _ _ _) dX0_addAll_38 (fun H locs hP hD hS => ?_)
            have hP : va_P D vwCl (wH ct h (va_up (uni hd hd2 k) k (hd k || hd2 k)) nl wi ++ wT ct a n dc pa va dl ge su ++ wH ct g hd2 nl2 wi2) H := hP
            have hD : va_D A (wH ct h (va_up (uni hd hd2 k) k (hd k || hd2 k)) nl wi ++ wT ct a n dc pa va dl ge su ++ wH ct g hd2 nl2 wi2) := hD
            refine lv_iinc (v := nI (k + 1)) (lv' := [(3, .int (nI (k + 1))), (0, .ref (h 0)), (1, .ref (a 0)), (2, .ref (g 0))]) hx hb dX0_addAll_39 hl (k := 0) rfl (nI_1 _) (by decide) rfl (fun ls hl => ?_)
            refine lv_goto (tgt := 2) hx hb dX0_addAll_42 (by decide) ?_
            have e9 : (va_up (uni hd hd2 k) k (hd k || hd2 k)) = (uni hd hd2 (k + 1)) := uni_s _ _ _
            have hP := (congrArg (fun z9 => va_P D vwCl (wH ct h z9 nl wi ++ wT ct a n dc pa va dl ge su ++ wH ct g hd2 nl2 wi2) H) e9).mp hP
            have hD := (congrArg (fun z9 => va_D A (wH ct h z9 nl wi ++ wT ct a n dc pa va dl ge su ++ wH ct g hd2 nl2 wi2)) e9).mp hD
            have hP : va_P D vwCl (wH ct h (uni hd hd2 (k + 1)) nl wi ++ wT ct a n dc pa va dl ge su ++ wH ct g hd2 nl2 wi2) H := hP
            have hD : va_D A (wH ct h (uni hd hd2 (k + 1)) nl wi ++ wT ct a n dc pa va dl ge su ++ wH ct g hd2 nl2 wi2) := hD
            exact ih2 (k + 1) (by first | assumption | omega) (by omega) H locs ls hP hD hS (lv_sub hl [0, 1, 2, 3] rfl)
          · refine lv_iconst (v := nI 1) hx hb dX0_addAll_33 (by decide) ?_
            refine lv_goto (tgt := 38) hx hb dX0_addAll_34 (by decide) ?_
            refine r_top (y := bI (hd k || hd2 k)) (congrArg bI (show true = (hd k || hd2 k) from by simp [bI, c7, c21, c30])) ?_
            refine r_zast (j := k) (x := (hd k || hd2 k)) (f' := fun q9 => bI ((va_up (uni hd hd2 k) k (hd k || hd2 k)) q9)) hx hb hK.1 hP hD hS 1 1 rfl rfl (by omega) (by first | decide | omega) (up_b _ _ _) dX0_addAll_38 (fun H locs hP hD hS => ?_)
            have hP : va_P D vwCl (wH ct h (va_up (uni hd hd2 k) k (hd k || hd2 k)) nl wi ++ wT ct a n dc pa va dl ge su ++ wH ct g hd2 nl2 wi2) H := hP
            have hD : va_D A (wH ct h (va_up (uni hd hd2 k) k (hd k || hd2 k)) nl wi ++ wT ct a n dc pa va dl ge su ++ wH ct g hd2 nl2 wi2) := hD
            refine lv_iinc (v := nI (k + 1)) (lv' := [(3, .int (nI (k + 1))), (0, .ref (h 0)), (1, .ref (a 0)), (2, .ref (g 0))]) hx hb dX0_addAll_39 hl (k := 0) rfl (nI_1 _) (by decide) rfl (fun ls hl => ?_)
            refine lv_goto (tgt := 2) hx hb dX0_addAll_42 (by decide) ?_
            have e9 : (va_up (uni hd hd2 k) k (hd k || hd2 k)) = (uni hd hd2 (k + 1)) := uni_s _ _ _
            have hP := (congrArg (fun z9 => va_P D vwCl (wH ct h z9 nl wi ++ wT ct a n dc pa va dl ge su ++ wH ct g hd2 nl2 wi2) H) e9).mp hP
            have hD := (congrArg (fun z9 => va_D A (wH ct h z9 nl wi ++ wT ct a n dc pa va dl ge su ++ wH ct g hd2 nl2 wi2)) e9).mp hD
            have hP : va_P D vwCl (wH ct h (uni hd hd2 (k + 1)) nl wi ++ wT ct a n dc pa va dl ge su ++ wH ct g hd2 nl2 wi2) H := hP
            have hD : va_D A (wH ct h (uni hd hd2 (k + 1)) nl wi ++ wT ct a n dc pa va dl ge su ++ wH ct g hd2 nl2 wi2) := hD
            exact ih2 (k + 1) (by first | assumption | omega) (by omega) H locs ls hP hD hS (lv_sub hl [0, 1, 2, 3] rfl)
  have e9 : hd = (uni hd hd2 0) := uni_0 _ _
  have hP := (congrArg (fun z9 => va_P D vwCl (wH ct h z9 nl wi ++ wT ct a n dc pa va dl ge su ++ wH ct g hd2 nl2 wi2) s.heap) e9).mp hP
  have hD := (congrArg (fun z9 => va_D A (wH ct h z9 nl wi ++ wT ct a n dc pa va dl ge su ++ wH ct g hd2 nl2 wi2)) e9).mp hD
  have hP : va_P D vwCl (wH ct h (uni hd hd2 0) nl wi ++ wT ct a n dc pa va dl ge su ++ wH ct g hd2 nl2 wi2) s.heap := hP
  have hD : va_D A (wH ct h (uni hd hd2 0) nl wi ++ wT ct a n dc pa va dl ge su ++ wH ct g hd2 nl2 wi2) := hD
  exact key2 ((n - 0) + 1) 0 (by first | assumption | omega) (Nat.lt_succ_self _) _ _ ls hP hD hS (lv_sub hl [0, 1, 2, 3] rfl)
set_option maxHeartbeats 8000000 in
set_option maxRecDepth 100000 in
theorem cX0_addLine_ok (l : Launch) (D : va_G) (ct : Nat → ClassId) (h : Nat → Nat) (hd : Nat → Bool) (nl : Nat → Nat) (wi : Nat → Option Nat) (a : Nat → Nat) (n : Nat) (dc : Nat → Nat) (pa : Nat → Option Nat) (va : Nat → Int32) (dl : Nat → Bool) (ge : Nat → Nat) (su : Nat → Int32) (g : Nat → Nat) (hd2 : Nat → Bool) (nl2 : Nat → Nat) (wi2 : Nat → Option Nat) (k : Nat) (hn : n ≤ 150) (hTp : ∀ k j, k < n → pa k = some j → j < k) (hk : k < n) (sz : Nat) : Met l yX0_addLine wsX0_addLine ({ frames := 0, cells := 0, slots := 0, locals := 0 } : Room) (wrPc D ct [.ref (h 0), .ref (a 0), .ref (g 0), .int (nI k)] (wH ct h hd nl wi ++ wT ct a n dc pa va dl ge su ++ wH ct g hd2 nl2 wi2) sz) (wqI D (nI ((ln pa hd2 150 (some k) 0 hd).1)) (wH ct h ((ln pa hd2 150 (some k) 0 hd).2) nl wi ++ wT ct a n dc pa va dl ge su ++ wH ct g hd2 nl2 wi2) (va_A (wH ct h hd nl wi ++ wT ct a n dc pa va dl ge su ++ wH ct g hd2 nl2 wi2) sz)) 0 0 (va_A (wH ct h hd nl wi ++ wT ct a n dc pa va dl ge su ++ wH ct g hd2 nl2 wi2) sz) := by
  refine Met.ofW (cc := cX0_addLine) (maxL := 7) (ret := (some .int)) (by decide) rfl ?_
  intro p e s m args below meth c s₁ B hml hv
  obtain ⟨rfl, hsz, hP, hK, hD0⟩ := hv
  have hx := B.exec
  have hb := B.bytes
  have hr := B.returns
  have hts := atoms_spec (ws := wsX0_addLine) B.pre
  have hown : s.vm.findClass RX0 = some m.cls := findClass_of_methodNamed B.named
  have hlocks := B.notSynchronized
  subst hsz
  have hD := hD0.self (sz := s.heap.size)
  generalize hAe : va_A (wH ct h hd nl wi ++ wT ct a n dc pa va dl ge su ++ wH ct g hd2 nl2 wi2) s.heap.size = A at hD ⊢
  have hA : ∀ q : Nat, s.heap.size ≤ q → A q := fun q h => by rw [← hAe]; exact Or.inr h
  have hS : va_S A s.heap s.heap [] := va_S.rf
  have hP : va_P D vwCl (wH ct h hd nl wi ++ wT ct a n dc pa va dl ge su ++ wH ct g hd2 nl2 wi2) s.heap := hP
  clear hAe hD0
  have hl := lv_entry ([.ref (h 0), .ref (a 0), .ref (g 0), .int (nI k)]) (n := 7) (Nat.le_of_ble_eq_true rfl)
  rw [lg_entry_eq]
  generalize (lg_sl ([.ref (h 0), .ref (a 0), .ref (g 0), .int (nI k)]) ++ List.replicate (7 - (lg_sl ([.ref (h 0), .ref (a 0), .ref (g 0), .int (nI k)])).length) Slot.unset).toArray = ls at hl ⊢
  have hl : lv_has ls 7 [(0, .ref (h 0)), (1, .ref (a 0)), (2, .ref (g 0)), (3, .int (nI k))] := hl
  have hH0 : s.heap.size ≤ s.heap.size := Nat.le_refl _
  refine lv_iconst (v := nI 0) hx hb dX0_addLine_0 (by decide) ?_
  refine lv_istore (lv' := [(4, .int (nI 0)), (0, .ref (h 0)), (1, .ref (a 0)), (2, .ref (g 0)), (3, .int (nI k))]) hx hb dX0_addLine_1 hl (by decide) rfl (fun ls hl => ?_)
  refine lv_iload_n hx hb dX0_addLine_3 rfl (lv_at hl 4 rfl) ?_
  refine lv_istore (lv' := [(5, .int (nI k)), (4, .int (nI 0)), (0, .ref (h 0)), (1, .ref (a 0)), (2, .ref (g 0)), (3, .int (nI k))]) hx hb dX0_addLine_4 hl (by decide) rfl (fun ls hl => ?_)
  refine lv_iconst (v := nI 0) hx hb dX0_addLine_6 (by decide) ?_
  refine lv_istore (lv' := [(6, .int (nI 0)), (5, .int (nI k)), (4, .int (nI 0)), (0, .ref (h 0)), (1, .ref (a 0)), (2, .ref (g 0)), (3, .int (nI k))]) hx hb dX0_addLine_7 hl (by decide) rfl (fun ls hl => ?_)
  have key9 : ∀ (d9 : Nat) (i : Nat) (o : Option Nat) (w : Nat) (x : Nat → Bool) (hi : i ≤ 150) (ho : ∀ j, o = some j → j < n) (hq : ln pa hd2 (150 - i) o w x = ln pa hd2 150 (some k) 0 hd), 150 - i < d9 → ∀ (H : Heap) (locs : List Loc) (ls : Array Slot), va_P D vwCl (wH ct h x nl wi ++ wT ct a n dc pa va dl ge su ++ wH ct g hd2 nl2 wi2) H → va_D A (wH ct h x nl wi ++ wT ct a n dc pa va dl ge su ++ wH ct g hd2 nl2 wi2) → va_S A s.heap H locs → lv_has ls 7 [(6, .int (nI i)), (5, .int (eP o)), (4, .int (nI w)), (0, .ref (h 0)), (1, .ref (a 0)), (2, .ref (g 0)), (3, .int (nI k))] → W p l e ({ frames := 0, cells := 0, slots := 0, locals := 0 } : Room) s m ([.ref (h 0), .ref (a 0), .ref (g 0), .int (nI k)] : List Value).toArray below meth c H locs 0 0 (MQ below (wqI D (nI ((ln pa hd2 150 (some k) 0 hd).1)) (wH ct h ((ln pa hd2 150 (some k) 0 hd).2) nl wi ++ wT ct a n dc pa va dl ge su ++ wH ct g hd2 nl2 wi2) A) ([.ref (h 0), .ref (a 0), .ref (g 0), .int (nI k)] : List Value).toArray s 0 0 A) (F0 m 9 ls []) := by
    intro d9
    induction d9 with
    | zero => intro i o w x hi ho hq h9; exact absurd h9 (Nat.not_lt_zero _)
    | succ d9 ih9 =>
      intro i o w x hi ho hq hm9 H locs ls hP hD hS hl
      refine lv_iload hx hb dX0_addLine_9 (lv_at hl 0 rfl) ?_
      refine lv_sipush (v := nI 150) hx hb dX0_addLine_11 (by decide) ?_
      refine r_icmp_geN hx hb (x := i) (y := 150) (by first | omega | decide) (by first | omega | decide) (tgt := 69) dX0_addLine_14 (by decide) (fun c14 => ?_) (fun c14 => ?_)
      · refine lv_iload hx hb dX0_addLine_69 (lv_at hl 2 rfl) ?_
        refine r_top (y := nI ((ln pa hd2 150 (some k) 0 hd).1)) (congrArg nI (show w = ((ln pa hd2 150 (some k) 0 hd).1) from by rw [← hq]; first | (rw [show 150 - i = 0 by omega]; rfl) | (rw [c20, ln_none]))) ?_
        have e9 : x = ((ln pa hd2 150 (some k) 0 hd).2) := by rw [← hq]; first | (rw [show 150 - i = 0 by omega]; rfl) | (rw [c20, ln_none])
        have hP := (congrArg (fun z9 => va_P D vwCl (wH ct h z9 nl wi ++ wT ct a n dc pa va dl ge su ++ wH ct g hd2 nl2 wi2) H) e9).mp hP
        have hP : va_P D vwCl (wH ct h ((ln pa hd2 150 (some k) 0 hd).2) nl wi ++ wT ct a n dc pa va dl ge su ++ wH ct g hd2 nl2 wi2) H := hP
        exact W.iret hx hb hr (fun t ht hW => ⟨⟨_, (), rfl, rfl, by show va_P D vwCl _ t.heap; rw [ht]; exact hP⟩, hS.F ht⟩) hS.2.2 dX0_addLine_71
      · refine lv_iload hx hb dX0_addLine_17 (lv_at hl 1 rfl) ?_
        refine lv_iconst (v := -1) hx hb dX0_addLine_19 (by decide) ?_
        refine r_icmp_eqP hx hb (x := o) (by intro j9 h9; have := ho _ h9; omega) (tgt := 69) dX0_addLine_20 (by decide) (fun c20 => ?_) (fun j20 c20 => ?_)
        · have hl := lv_re (f := fun z9 => [(6, .int (nI i)), (5, .int z9), (4, .int (nI w)), (0, .ref (h 0)), (1, .ref (a 0)), (2, .ref (g 0)), (3, .int (nI k))]) hl (show eP o = eP none from congrArg eP c20)
          refine lv_iload hx hb dX0_addLine_69 (lv_at hl 2 rfl) ?_
          refine r_top (y := nI ((ln pa hd2 150 (some k) 0 hd).1)) (congrArg nI (show w = ((ln pa hd2 150 (some k) 0 hd).1) from by rw [← hq]; first | (rw [show 150 - i = 0 by omega]; rfl) | (rw [c20, ln_none]))) ?_
          have e9 : x = ((ln pa hd2 150 (some k) 0 hd).2) := by rw [← hq]; first | (rw [show 150 - i = 0 by omega]; rfl) | (rw [c20, ln_none])
          have hP := (congrArg (fun z9 => va_P D vwCl (wH ct h z9 nl wi ++ wT ct a n dc pa va dl ge su ++ wH ct g hd2 nl2 wi2) H) e9).mp hP
          have hP : va_P D vwCl (wH ct h ((ln pa hd2 150 (some k) 0 hd).2) nl wi ++ wT ct a n dc pa va dl ge su ++ wH ct g hd2 nl2 wi2) H := hP
          exact W.iret hx hb hr (fun t ht hW => ⟨⟨_, (), rfl, rfl, by show va_P D vwCl _ t.heap; rw [ht]; exact hP⟩, hS.F ht⟩) hS.2.2 dX0_addLine_71
        · have hl := lv_re (f := fun z9 => [(6, .int (nI i)), (5, .int z9), (4, .int (nI w)), (0, .ref (h 0)), (1, .ref (a 0)), (2, .ref (g 0)), (3, .int (nI k))]) hl (show eP o = nI j20 from congrArg eP c20)
          have e23 := ho _ c20
          refine lv_aload_n hx hb dX0_addLine_23 rfl (lv_at hl 5 rfl) ?_
          refine va_get (D := D) (ci := 0) (v := .ref (g 1)) (C := RX0) (T := TX0) (N := 3) hx hb hts (fun _ h => List.mem_cons_of_mem _ (List.mem_append_left _ (List.mem_append_right _ h))) hown hK.1 hP 11 rfl rfl 0 (by decide) (hts (.fieldLink RX0 9 "RevisionStores$Holding" "held" "[Z") (List.mem_of_getElem? (i := 1) rfl)) (fun _ h9 => h9) rfl dX0_addLine_24 ?_
          refine lv_iload hx hb dX0_addLine_27 (lv_at hl 1 rfl) ?_
          refine r_zald (j := j20) (v := bI (hd2 j20)) hx hb hK.1 hP 12 1 rfl rfl (by omega) (by first | decide | omega) rfl dX0_addLine_29 ?_
          refine r_if_eqB (x := hd2 j20) (tgt := 54) hx hb dX0_addLine_30 (by decide) (fun c30 => ?_) (fun c30 => ?_)
          · refine lv_aload_n hx hb dX0_addLine_54 rfl (lv_at hl 4 rfl) ?_
            refine va_getN (D := D) (ci := 2) (v := .ref (a 2)) (C := RX2) (T := TX2) (N := 7) hx hb hts (fun _ h => List.mem_cons_of_mem _ (List.mem_append_right _ h)) hown hK.1 hP 4 rfl rfl 1 (by decide) (va_Nw.use rfl (hK.2 _ (List.mem_of_getElem? (i := 17) rfl))) (fun _ h9 => h9) rfl dX0_addLine_55 ?_
            refine lv_iload hx hb dX0_addLine_58 (lv_at hl 1 rfl) ?_
            refine r_iald (j := j20) (v := eP (pa j20)) hx hb hK.1 hP 6 0 rfl rfl (by omega) (by first | decide | omega) rfl dX0_addLine_60 ?_
            refine lv_istore (lv' := [(5, .int (eP (pa j20))), (6, .int (nI i)), (4, .int (nI w)), (0, .ref (h 0)), (1, .ref (a 0)), (2, .ref (g 0)), (3, .int (nI k))]) hx hb dX0_addLine_61 hl (by decide) rfl (fun ls hl => ?_)
            refine lv_iinc (v := nI (i + 1)) (lv' := [(6, .int (nI (i + 1))), (5, .int (eP (pa j20))), (4, .int (nI w)), (0, .ref (h 0)), (1, .ref (a 0)), (2, .ref (g 0)), (3, .int (nI k))]) hx hb dX0_addLine_63 hl (k := 1) rfl (nI_1 _) (by decide) rfl (fun ls hl => ?_)
            refine lv_goto (tgt := 9) hx hb dX0_addLine_66 (by decide) ?_
            exact ih9 (i + 1) (pa j20) w x (by first | assumption | omega) (by intro j9 h9; have := hTp _ _ e23 h9; omega) (by rw [c20] at hq; rw [← hq]; first | exact (ln_t (by omega) c30 c40).symm | exact (ln_f (by omega) (by simp [c14, c20, c30])).symm) (by omega) H locs ls hP hD hS (lv_sub hl [0, 1, 2, 3, 4, 5, 6] rfl)
          · refine lv_aload_n hx hb dX0_addLine_33 rfl (lv_at hl 3 rfl) ?_
            refine va_get (D := D) (ci := 0) (v := .ref (h 1)) (C := RX0) (T := TX0) (N := 3) hx hb hts (fun _ h => List.mem_cons_of_mem _ (List.mem_append_left _ (List.mem_append_right _ h))) hown hK.1 hP 0 rfl rfl 0 (by decide) (hts (.fieldLink RX0 9 "RevisionStores$Holding" "held" "[Z") (List.mem_of_getElem? (i := 1) rfl)) (fun _ h9 => h9) rfl dX0_addLine_34 ?_
            refine lv_iload hx hb dX0_addLine_37 (lv_at hl 1 rfl) ?_
            refine r_zald (j := j20) (v := bI (x j20)) hx hb hK.1 hP 1 1 rfl rfl (by omega) (by first | decide | omega) rfl dX0_addLine_39 ?_
            refine r_if_neB (x := x j20) (tgt := 54) hx hb dX0_addLine_40 (by decide) (fun c40 => ?_) (fun c40 => ?_)
            · refine lv_aload_n hx hb dX0_addLine_54 rfl (lv_at hl 4 rfl) ?_
              refine va_getN (D := D) (ci := 2) (v := .ref (a 2)) (C := RX2) (T := TX2) (N := 7) hx hb hts (fun _ h => List.mem_cons_of_mem _ (List.mem_append_right _ h)) hown hK.1 hP 4 rfl rfl 1 (by decide) (va_Nw.use rfl (hK.2 _ (List.mem_of_getElem? (i := 17) rfl))) (fun _ h9 => h9) rfl dX0_addLine_55 ?_
              refine lv_iload hx hb dX0_addLine_58 (lv_at hl 1 rfl) ?_
              refine r_iald (j := j20) (v := eP (pa j20)) hx hb hK.1 hP 6 0 rfl rfl (by omega) (by first | decide | omega) rfl dX0_addLine_60 ?_
              refine lv_istore (lv' := [(5, .int (eP (pa j20))), (6, .int (nI i)), (4, .int (nI w)), (0, .ref (h 0)), (1, .ref (a 0)), (2, .ref (g 0)), (3, .int (nI k))]) hx hb dX0_addLine_61 hl (by decide) rfl (fun ls hl => ?_)
              refine lv_iinc (v := nI (i + 1)) (lv' := [(6, .int (nI (i + 1))), (5, .int (eP (pa j20))), (4, .int (nI w)), (0, .ref (h 0)), (1, .ref (a 0)), (2, .ref (g 0)), (3, .int (nI k))]) hx hb dX0_addLine_63 hl (k := 1) rfl (nI_1 _) (by decide) rfl (fun ls hl => ?_)
              refine lv_goto (tgt := 9) hx hb dX0_addLine_66 (by decide) ?_
              exact ih9 (i + 1) (pa j20) w x (by first | assumption | omega) (by intro j9 h9; have := hTp _ _ e23 h9; omega) (by rw [c20] at hq; rw [← hq]; first | exact (ln_t (by omega) c30 c40).symm | exact (ln_f (by omega) (by simp [c14, c20, c30, c40])).symm) (by omega) H locs ls hP hD hS (lv_sub hl [0, 1, 2, 3, 4, 5, 6] rfl)
            · refine lv_aload_n hx hb dX0_addLine_43 rfl (lv_at hl 3 rfl) ?_
              refine va_get (D := D) (ci := 0) (v := .ref (h 1)) (C := RX0) (T := TX0) (N := 3) hx hb hts (fun _ h => List.mem_cons_of_mem _ (List.mem_append_left _ (List.mem_append_right _ h))) hown hK.1 hP 0 rfl rfl 0 (by decide) (hts (.fieldLink RX0 9 "RevisionStores$Holding" "held" "[Z") (List.mem_of_getElem? (i := 1) rfl)) (fun _ h9 => h9) rfl dX0_addLine_44 ?_
              refine lv_iload hx hb dX0_addLine_47 (lv_at hl 1 rfl) ?_
              refine lv_iconst (v := nI 1) hx hb dX0_addLine_49 (by decide) ?_
              refine r_zast (j := j20) (x := true) (f' := fun q9 => bI ((va_up x j20 true) q9)) hx hb hK.1 hP hD hS 1 1 rfl rfl (by omega) (by first | decide | omega) (up_b _ _ _) dX0_addLine_50 (fun H locs hP hD hS => ?_)
              have hP : va_P D vwCl (wH ct h (va_up x j20 true) nl wi ++ wT ct a n dc pa va dl ge su ++ wH ct g hd2 nl2 wi2) H := hP
              have hD : va_D A (wH ct h (va_up x j20 true) nl wi ++ wT ct a n dc pa va dl ge su ++ wH ct g hd2 nl2 wi2) := hD
              refine lv_iinc (v := nI (w + 1)) (lv' := [(4, .int (nI (w + 1))), (6, .int (nI i)), (5, .int (nI j20)), (0, .ref (h 0)), (1, .ref (a 0)), (2, .ref (g 0)), (3, .int (nI k))]) hx hb dX0_addLine_51 hl (k := 2) rfl (nI_1 _) (by decide) rfl (fun ls hl => ?_)
              refine lv_aload_n hx hb dX0_addLine_54 rfl (lv_at hl 4 rfl) ?_
              refine va_getN (D := D) (ci := 2) (v := .ref (a 2)) (C := RX2) (T := TX2) (N := 7) hx hb hts (fun _ h => List.mem_cons_of_mem _ (List.mem_append_right _ h)) hown hK.1 hP 4 rfl rfl 1 (by decide) (va_Nw.use rfl (hK.2 _ (List.mem_of_getElem? (i := 17) rfl))) (fun _ h9 => h9) rfl dX0_addLine_55 ?_
              refine lv_iload hx hb dX0_addLine_58 (lv_at hl 2 rfl) ?_
              refine r_iald (j := j20) (v := eP (pa j20)) hx hb hK.1 hP 6 0 rfl rfl (by omega) (by first | decide | omega) rfl dX0_addLine_60 ?_
              refine lv_istore (lv' := [(5, .int (eP (pa j20))), (4, .int (nI (w + 1))), (6, .int (nI i)), (0, .ref (h 0)), (1, .ref (a 0)), (2, .ref (g 0)), (3, .int (nI k))]) hx hb dX0_addLine_61 hl (by decide) rfl (fun ls hl => ?_)
              refine lv_iinc (v := nI (i + 1)) (lv' := [(6, .int (nI (i + 1))), (5, .int (eP (pa j20))), (4, .int (nI (w + 1))), (0, .ref (h 0)), (1, .ref (a 0)), (2, .ref (g 0)), (3, .int (nI k))]) hx hb dX0_addLine_63 hl (k := 2) rfl (nI_1 _) (by decide) rfl (fun ls hl => ?_)
              refine lv_goto (tgt := 9) hx hb dX0_addLine_66 (by decide) ?_
              have hP : va_P D vwCl (wH ct h (va_up x j20 true) nl wi ++ wT ct a n dc pa va dl ge su ++ wH ct g hd2 nl2 wi2) H := hP
              have hD : va_D A (wH ct h (va_up x j20 true) nl wi ++ wT ct a n dc pa va dl ge su ++ wH ct g hd2 nl2 wi2) := hD
              exact ih9 (i + 1) (pa j20) (w + 1) (va_up x j20 true) (by first | assumption | omega) (by intro j9 h9; have := hTp _ _ e23 h9; omega) (by rw [c20] at hq; rw [← hq]; first | exact (ln_t (by omega) c30 c40).symm | exact (ln_f (by omega) (by simp [c14, c20, c30, c40])).symm) (by omega) H locs ls hP hD hS (lv_sub hl [0, 1, 2, 3, 4, 5, 6] rfl)
  exact key9 ((150 - 0) + 1) 0 (some k) 0 hd (by first | assumption | omega) (by intro j9 h9; cases h9; exact hk) (rfl) (Nat.lt_succ_self _) _ _ ls hP hD hS (lv_sub hl [0, 1, 2, 3, 4, 5, 6] rfl)
set_option maxHeartbeats 8000000 in
set_option maxRecDepth 100000 in
theorem cX0_addBranches_ok (l : Launch) (D : va_G) (ct : Nat → ClassId) (h : Nat → Nat) (hd : Nat → Bool) (nl : Nat → Nat) (wi : Nat → Option Nat) (a : Nat → Nat) (n : Nat) (dc : Nat → Nat) (pa : Nat → Option Nat) (va : Nat → Int32) (dl : Nat → Bool) (ge : Nat → Nat) (su : Nat → Int32) (g : Nat → Nat) (hd2 : Nat → Bool) (nl2 : Nat → Nat) (wi2 : Nat → Option Nat) (d : Nat) (hn : n ≤ 150) (hTd : ∀ k, dc k < 4) (hTp : ∀ k j, k < n → pa k = some j → j < k) (hNl : ∀ k, nl k ≤ 151) (hNl2 : ∀ k, nl2 k ≤ 151) (hd4 : d < 4) (sz : Nat) : Met l yX0_addBranches wsX0_addBranches ({ frames := 2, cells := 0, slots := 0, locals := 42 } : Room) (wrPc D ct [.ref (h 0), .ref (a 0), .ref (g 0), .int (nI d)] (wH ct h hd nl wi ++ wT ct a n dc pa va dl ge su ++ wH ct g hd2 nl2 wi2) sz) (wqI D (nI ((abS dc pa hd2 (ends hd2 nl2) nl d hd n).1)) (wH ct h ((abS dc pa hd2 (ends hd2 nl2) nl d hd n).2) nl wi ++ wT ct a n dc pa va dl ge su ++ wH ct g hd2 nl2 wi2) (va_A (wH ct h hd nl wi ++ wT ct a n dc pa va dl ge su ++ wH ct g hd2 nl2 wi2) sz)) 0 0 (va_A (wH ct h hd nl wi ++ wT ct a n dc pa va dl ge su ++ wH ct g hd2 nl2 wi2) sz) := by
  refine Met.ofW (cc := cX0_addBranches) (maxL := 6) (ret := (some .int)) (by decide) rfl ?_
  intro p e s m args below meth c s₁ B hml hv
  obtain ⟨rfl, hsz, hP, hK, hD0⟩ := hv
  have hx := B.exec
  have hb := B.bytes
  have hr := B.returns
  have hts := atoms_spec (ws := wsX0_addBranches) B.pre
  have hown : s.vm.findClass RX0 = some m.cls := findClass_of_methodNamed B.named
  have hlocks := B.notSynchronized
  subst hsz
  have hD := hD0.self (sz := s.heap.size)
  generalize hAe : va_A (wH ct h hd nl wi ++ wT ct a n dc pa va dl ge su ++ wH ct g hd2 nl2 wi2) s.heap.size = A at hD ⊢
  have hA : ∀ q : Nat, s.heap.size ≤ q → A q := fun q h => by rw [← hAe]; exact Or.inr h
  have hS : va_S A s.heap s.heap [] := va_S.rf
  have hP : va_P D vwCl (wH ct h hd nl wi ++ wT ct a n dc pa va dl ge su ++ wH ct g hd2 nl2 wi2) s.heap := hP
  clear hAe hD0
  have hl := lv_entry ([.ref (h 0), .ref (a 0), .ref (g 0), .int (nI d)]) (n := 6) (Nat.le_of_ble_eq_true rfl)
  rw [lg_entry_eq]
  generalize (lg_sl ([.ref (h 0), .ref (a 0), .ref (g 0), .int (nI d)]) ++ List.replicate (6 - (lg_sl ([.ref (h 0), .ref (a 0), .ref (g 0), .int (nI d)])).length) Slot.unset).toArray = ls at hl ⊢
  have hl : lv_has ls 6 [(0, .ref (h 0)), (1, .ref (a 0)), (2, .ref (g 0)), (3, .int (nI d))] := hl
  have hH0 : s.heap.size ≤ s.heap.size := Nat.le_refl _
  refine lv_iconst (v := nI 0) hx hb dX0_addBranches_0 (by decide) ?_
  refine lv_istore (lv' := [(4, .int (nI 0)), (0, .ref (h 0)), (1, .ref (a 0)), (2, .ref (g 0)), (3, .int (nI d))]) hx hb dX0_addBranches_1 hl (by decide) rfl (fun ls hl => ?_)
  refine lv_iconst (v := nI 0) hx hb dX0_addBranches_3 (by decide) ?_
  refine lv_istore (lv' := [(5, .int (nI 0)), (4, .int (nI 0)), (0, .ref (h 0)), (1, .ref (a 0)), (2, .ref (g 0)), (3, .int (nI d))]) hx hb dX0_addBranches_4 hl (by decide) rfl (fun ls hl => ?_)
  have key6 : ∀ (d6 : Nat) (k : Nat) (hk : k ≤ n), n - k < d6 → ∀ (H : Heap) (locs : List Loc) (ls : Array Slot), va_P D vwCl (wH ct h ((abS dc pa hd2 (ends hd2 nl2) nl d hd k).2) nl wi ++ wT ct a n dc pa va dl ge su ++ wH ct g hd2 nl2 wi2) H → va_D A (wH ct h ((abS dc pa hd2 (ends hd2 nl2) nl d hd k).2) nl wi ++ wT ct a n dc pa va dl ge su ++ wH ct g hd2 nl2 wi2) → va_S A s.heap H locs → lv_has ls 6 [(5, .int (nI k)), (4, .int (nI ((abS dc pa hd2 (ends hd2 nl2) nl d hd k).1))), (0, .ref (h 0)), (1, .ref (a 0)), (2, .ref (g 0)), (3, .int (nI d))] → W p l e ({ frames := 2, cells := 0, slots := 0, locals := 42 } : Room) s m ([.ref (h 0), .ref (a 0), .ref (g 0), .int (nI d)] : List Value).toArray below meth c H locs 0 0 (MQ below (wqI D (nI ((abS dc pa hd2 (ends hd2 nl2) nl d hd n).1)) (wH ct h ((abS dc pa hd2 (ends hd2 nl2) nl d hd n).2) nl wi ++ wT ct a n dc pa va dl ge su ++ wH ct g hd2 nl2 wi2) A) ([.ref (h 0), .ref (a 0), .ref (g 0), .int (nI d)] : List Value).toArray s 0 0 A) (F0 m 6 ls []) := by
    intro d6
    induction d6 with
    | zero => intro k hk h9; exact absurd h9 (Nat.not_lt_zero _)
    | succ d6 ih6 =>
      intro k hk hm6 H locs ls hP hD hS hl
      refine lv_iload hx hb dX0_addBranches_6 (lv_at hl 0 rfl) ?_
      refine lv_aload_n hx hb dX0_addBranches_8 rfl (lv_at hl 3 rfl) ?_
      refine va_getN (D := D) (ci := 2) (v := .int (nI n)) (C := RX2) (T := TX2) (N := 7) hx hb hts (fun _ h => List.mem_cons_of_mem _ (List.mem_append_left _ (List.mem_append_right _ h))) hown hK.1 hP 4 rfl rfl 6 (by decide) (va_Nw.use rfl (hK.2 _ (List.mem_of_getElem? (i := 16) rfl))) (fun _ h9 => h9) rfl dX0_addBranches_9 ?_
      refine r_icmp_geN hx hb (x := k) (y := n) (by first | omega | decide) (by first | omega | decide) (tgt := 73) dX0_addBranches_12 (by decide) (fun c12 => ?_) (fun c12 => ?_)
      · refine lv_iload hx hb dX0_addBranches_73 (lv_at hl 1 rfl) ?_
        refine r_top (y := nI ((abS dc pa hd2 (ends hd2 nl2) nl d hd n).1)) (congrArg nI (show ((abS dc pa hd2 (ends hd2 nl2) nl d hd k).1) = ((abS dc pa hd2 (ends hd2 nl2) nl d hd n).1) from by rw [show k = n by omega])) ?_
        have e9 : ((abS dc pa hd2 (ends hd2 nl2) nl d hd k).2) = ((abS dc pa hd2 (ends hd2 nl2) nl d hd n).2) := by rw [show k = n by omega]
        have hP := (congrArg (fun z9 => va_P D vwCl (wH ct h z9 nl wi ++ wT ct a n dc pa va dl ge su ++ wH ct g hd2 nl2 wi2) H) e9).mp hP
        have hP : va_P D vwCl (wH ct h ((abS dc pa hd2 (ends hd2 nl2) nl d hd n).2) nl wi ++ wT ct a n dc pa va dl ge su ++ wH ct g hd2 nl2 wi2) H := hP
        exact W.iret hx hb hr (fun t ht hW => ⟨⟨_, (), rfl, rfl, by show va_P D vwCl _ t.heap; rw [ht]; exact hP⟩, hS.F ht⟩) hS.2.2 dX0_addBranches_75
      · refine lv_aload_n hx hb dX0_addBranches_15 rfl (lv_at hl 3 rfl) ?_
        refine va_getN (D := D) (ci := 2) (v := .ref (a 1)) (C := RX2) (T := TX2) (N := 7) hx hb hts (fun _ h => List.mem_cons_of_mem _ (List.mem_append_left _ (List.mem_append_right _ h))) hown hK.1 hP 4 rfl rfl 0 (by decide) (va_Nw.use rfl (hK.2 _ (List.mem_of_getElem? (i := 19) rfl))) (fun _ h9 => h9) rfl dX0_addBranches_16 ?_
        refine lv_iload hx hb dX0_addBranches_19 (lv_at hl 0 rfl) ?_
        refine r_iald (j := k) (v := nI (dc k)) hx hb hK.1 hP 5 0 rfl rfl (by omega) (by first | decide | omega) rfl dX0_addBranches_21 ?_
        have f21 := hTd k
        refine lv_iload_n hx hb dX0_addBranches_22 rfl (lv_at hl 5 rfl) ?_
        refine r_icmp_neN hx hb (x := dc k) (y := d) (by first | omega | decide) (by first | omega | decide) (tgt := 67) dX0_addBranches_23 (by decide) (fun c23 => ?_) (fun c23 => ?_)
        · refine lv_iinc (v := nI (k + 1)) (lv' := [(5, .int (nI (k + 1))), (4, .int (nI ((abS dc pa hd2 (ends hd2 nl2) nl d hd k).1))), (0, .ref (h 0)), (1, .ref (a 0)), (2, .ref (g 0)), (3, .int (nI d))]) hx hb dX0_addBranches_67 hl (k := 0) rfl (nI_1 _) (by decide) rfl (fun ls hl => ?_)
          refine lv_goto (tgt := 6) hx hb dX0_addBranches_70 (by decide) ?_
          have hl := lv_re (f := fun z9 => [(5, .int (nI (k + 1))), (4, .int z9), (0, .ref (h 0)), (1, .ref (a 0)), (2, .ref (g 0)), (3, .int (nI d))]) hl (show nI ((abS dc pa hd2 (ends hd2 nl2) nl d hd k).1) = nI ((abS dc pa hd2 (ends hd2 nl2) nl d hd (k + 1)).1) from congrArg nI (show ((abS dc pa hd2 (ends hd2 nl2) nl d hd k).1) = ((abS dc pa hd2 (ends hd2 nl2) nl d hd (k + 1)).1) from by first | exact congrArg Prod.fst (abS_f (by simp [abC, c12, c23])).symm | (rw [abS_t (dc := dc) (pa := pa) (oh := hd2) (oe := ends hd2 nl2) (nl := nl) (d := d) (hd := hd) (k := k) (by simp [abC, c12, c23])])))
          have e9 : ((abS dc pa hd2 (ends hd2 nl2) nl d hd k).2) = ((abS dc pa hd2 (ends hd2 nl2) nl d hd (k + 1)).2) := by first | exact congrArg Prod.snd (abS_f (by simp [abC, c12, c23])).symm | (rw [abS_t (dc := dc) (pa := pa) (oh := hd2) (oe := ends hd2 nl2) (nl := nl) (d := d) (hd := hd) (k := k) (by simp [abC, c12, c23])])
          have hP := (congrArg (fun z9 => va_P D vwCl (wH ct h z9 nl wi ++ wT ct a n dc pa va dl ge su ++ wH ct g hd2 nl2 wi2) H) e9).mp hP
          have hD := (congrArg (fun z9 => va_D A (wH ct h z9 nl wi ++ wT ct a n dc pa va dl ge su ++ wH ct g hd2 nl2 wi2)) e9).mp hD
          have hP : va_P D vwCl (wH ct h ((abS dc pa hd2 (ends hd2 nl2) nl d hd (k + 1)).2) nl wi ++ wT ct a n dc pa va dl ge su ++ wH ct g hd2 nl2 wi2) H := hP
          have hD : va_D A (wH ct h ((abS dc pa hd2 (ends hd2 nl2) nl d hd (k + 1)).2) nl wi ++ wT ct a n dc pa va dl ge su ++ wH ct g hd2 nl2 wi2) := hD
          exact ih6 (k + 1) (by first | assumption | omega) (by omega) H locs ls hP hD hS (lv_sub hl [0, 1, 2, 3, 4, 5] rfl)
        · refine lv_aload_n hx hb dX0_addBranches_26 rfl (lv_at hl 4 rfl) ?_
          refine lv_iload hx hb dX0_addBranches_27 (lv_at hl 0 rfl) ?_
          refine r_cV (As := [.int (nI k)]) (rest := []) ⟨hx, hb, hml, hown, hts⟩ (cX0_endsAt_ok l D ct g hd2 nl2 wi2 k (by first | assumption | omega) (hNl2 _)) (cwV 1 hts gX0_addBranches_X0_endsAt rfl rfl rfl (by decide +kernel) ⟨Nat.le_of_ble_eq_true rfl, Nat.le_of_ble_eq_true rfl⟩) hK (hP.sub (ws' := wH ct g hd2 nl2 wi2) [11, 12, 13, 14] rfl) 0 0 rfl rfl rfl hl.1 rfl (Nat.le_of_ble_eq_true rfl) dX0_addBranches_29 ⟨Nat.le_of_ble_eq_true rfl, Nat.le_of_ble_eq_true rfl⟩ ?_
          refine r_if_eqB (x := ends hd2 nl2 k) (tgt := 67) hx hb dX0_addBranches_32 (by decide) (fun c32 => ?_) (fun c32 => ?_)
          · refine lv_iinc (v := nI (k + 1)) (lv' := [(5, .int (nI (k + 1))), (4, .int (nI ((abS dc pa hd2 (ends hd2 nl2) nl d hd k).1))), (0, .ref (h 0)), (1, .ref (a 0)), (2, .ref (g 0)), (3, .int (nI d))]) hx hb dX0_addBranches_67 hl (k := 0) rfl (nI_1 _) (by decide) rfl (fun ls hl => ?_)
            refine lv_goto (tgt := 6) hx hb dX0_addBranches_70 (by decide) ?_
            have hl := lv_re (f := fun z9 => [(5, .int (nI (k + 1))), (4, .int z9), (0, .ref (h 0)), (1, .ref (a 0)), (2, .ref (g 0)), (3, .int (nI d))]) hl (show nI ((abS dc pa hd2 (ends hd2 nl2) nl d hd k).1) = nI ((abS dc pa hd2 (ends hd2 nl2) nl d hd (k + 1)).1) from congrArg nI (show ((abS dc pa hd2 (ends hd2 nl2) nl d hd k).1) = ((abS dc pa hd2 (ends hd2 nl2) nl d hd (k + 1)).1) from by first | exact congrArg Prod.fst (abS_f (by simp [abC, c12, c23, c32])).symm | (rw [abS_t (dc := dc) (pa := pa) (oh := hd2) (oe := ends hd2 nl2) (nl := nl) (d := d) (hd := hd) (k := k) (by simp [abC, c12, c23, c32])])))
            have e9 : ((abS dc pa hd2 (ends hd2 nl2) nl d hd k).2) = ((abS dc pa hd2 (ends hd2 nl2) nl d hd (k + 1)).2) := by first | exact congrArg Prod.snd (abS_f (by simp [abC, c12, c23, c32])).symm | (rw [abS_t (dc := dc) (pa := pa) (oh := hd2) (oe := ends hd2 nl2) (nl := nl) (d := d) (hd := hd) (k := k) (by simp [abC, c12, c23, c32])])
            have hP := (congrArg (fun z9 => va_P D vwCl (wH ct h z9 nl wi ++ wT ct a n dc pa va dl ge su ++ wH ct g hd2 nl2 wi2) H) e9).mp hP
            have hD := (congrArg (fun z9 => va_D A (wH ct h z9 nl wi ++ wT ct a n dc pa va dl ge su ++ wH ct g hd2 nl2 wi2)) e9).mp hD
            have hP : va_P D vwCl (wH ct h ((abS dc pa hd2 (ends hd2 nl2) nl d hd (k + 1)).2) nl wi ++ wT ct a n dc pa va dl ge su ++ wH ct g hd2 nl2 wi2) H := hP
            have hD : va_D A (wH ct h ((abS dc pa hd2 (ends hd2 nl2) nl d hd (k + 1)).2) nl wi ++ wT ct a n dc pa va dl ge su ++ wH ct g hd2 nl2 wi2) := hD
            exact ih6 (k + 1) (by first | assumption | omega) (by omega) H locs ls hP hD hS (lv_sub hl [0, 1, 2, 3, 4, 5] rfl)
          · refine lv_aload_n hx hb dX0_addBranches_35 rfl (lv_at hl 2 rfl) ?_
            refine va_get (D := D) (ci := 0) (v := .ref (h 1)) (C := RX0) (T := TX0) (N := 3) hx hb hts (fun _ h => List.mem_cons_of_mem _ (List.mem_append_right _ h)) hown hK.1 hP 0 rfl rfl 0 (by decide) (hts (.fieldLink RX0 9 "RevisionStores$Holding" "held" "[Z") (List.mem_of_getElem? (i := 1) rfl)) (fun _ h9 => h9) rfl dX0_addBranches_36 ?_
            refine lv_iload hx hb dX0_addBranches_39 (lv_at hl 0 rfl) ?_
            refine r_zald (j := k) (v := bI (((abS dc pa hd2 (ends hd2 nl2) nl d hd k).2) k)) hx hb hK.1 hP 1 1 rfl rfl (by omega) (by first | decide | omega) rfl dX0_addBranches_41 ?_
            refine r_if_neB (x := ((abS dc pa hd2 (ends hd2 nl2) nl d hd k).2) k) (tgt := 67) hx hb dX0_addBranches_42 (by decide) (fun c42 => ?_) (fun c42 => ?_)
            · refine lv_iinc (v := nI (k + 1)) (lv' := [(5, .int (nI (k + 1))), (4, .int (nI ((abS dc pa hd2 (ends hd2 nl2) nl d hd k).1))), (0, .ref (h 0)), (1, .ref (a 0)), (2, .ref (g 0)), (3, .int (nI d))]) hx hb dX0_addBranches_67 hl (k := 0) rfl (nI_1 _) (by decide) rfl (fun ls hl => ?_)
              refine lv_goto (tgt := 6) hx hb dX0_addBranches_70 (by decide) ?_
              have hl := lv_re (f := fun z9 => [(5, .int (nI (k + 1))), (4, .int z9), (0, .ref (h 0)), (1, .ref (a 0)), (2, .ref (g 0)), (3, .int (nI d))]) hl (show nI ((abS dc pa hd2 (ends hd2 nl2) nl d hd k).1) = nI ((abS dc pa hd2 (ends hd2 nl2) nl d hd (k + 1)).1) from congrArg nI (show ((abS dc pa hd2 (ends hd2 nl2) nl d hd k).1) = ((abS dc pa hd2 (ends hd2 nl2) nl d hd (k + 1)).1) from by first | exact congrArg Prod.fst (abS_f (by simp [abC, c12, c23, c32, c42])).symm | (rw [abS_t (dc := dc) (pa := pa) (oh := hd2) (oe := ends hd2 nl2) (nl := nl) (d := d) (hd := hd) (k := k) (by simp [abC, c12, c23, c32, c42])])))
              have e9 : ((abS dc pa hd2 (ends hd2 nl2) nl d hd k).2) = ((abS dc pa hd2 (ends hd2 nl2) nl d hd (k + 1)).2) := by first | exact congrArg Prod.snd (abS_f (by simp [abC, c12, c23, c32, c42])).symm | (rw [abS_t (dc := dc) (pa := pa) (oh := hd2) (oe := ends hd2 nl2) (nl := nl) (d := d) (hd := hd) (k := k) (by simp [abC, c12, c23, c32, c42])])
              have hP := (congrArg (fun z9 => va_P D vwCl (wH ct h z9 nl wi ++ wT ct a n dc pa va dl ge su ++ wH ct g hd2 nl2 wi2) H) e9).mp hP
              have hD := (congrArg (fun z9 => va_D A (wH ct h z9 nl wi ++ wT ct a n dc pa va dl ge su ++ wH ct g hd2 nl2 wi2)) e9).mp hD
              have hP : va_P D vwCl (wH ct h ((abS dc pa hd2 (ends hd2 nl2) nl d hd (k + 1)).2) nl wi ++ wT ct a n dc pa va dl ge su ++ wH ct g hd2 nl2 wi2) H := hP
              have hD : va_D A (wH ct h ((abS dc pa hd2 (ends hd2 nl2) nl d hd (k + 1)).2) nl wi ++ wT ct a n dc pa va dl ge su ++ wH ct g hd2 nl2 wi2) := hD
              exact ih6 (k + 1) (by first | assumption | omega) (by omega) H locs ls hP hD hS (lv_sub hl [0, 1, 2, 3, 4, 5] rfl)
            · refine lv_aload_n hx hb dX0_addBranches_45 rfl (lv_at hl 2 rfl) ?_
              refine lv_iload hx hb dX0_addBranches_46 (lv_at hl 0 rfl) ?_
              refine r_cV (As := [.int (nI k)]) (rest := []) ⟨hx, hb, hml, hown, hts⟩ (cX0_hasDescendantOf_ok l D ct h ((abS dc pa hd2 (ends hd2 nl2) nl d hd k).2) nl wi k (by first | assumption | omega) (hNl _)) (cwV 1 hts gX0_addBranches_X0_hasDescendantOf rfl rfl rfl (by decide +kernel) ⟨Nat.le_of_ble_eq_true rfl, Nat.le_of_ble_eq_true rfl⟩) hK (hP.sub (ws' := wH ct h ((abS dc pa hd2 (ends hd2 nl2) nl d hd k).2) nl wi) [0, 1, 2, 3] rfl) 0 0 rfl rfl rfl hl.1 rfl (Nat.le_of_ble_eq_true rfl) dX0_addBranches_48 ⟨Nat.le_of_ble_eq_true rfl, Nat.le_of_ble_eq_true rfl⟩ ?_
              refine r_if_neB (x := hasD nl k) (tgt := 67) hx hb dX0_addBranches_51 (by decide) (fun c51 => ?_) (fun c51 => ?_)
              · refine lv_iinc (v := nI (k + 1)) (lv' := [(5, .int (nI (k + 1))), (4, .int (nI ((abS dc pa hd2 (ends hd2 nl2) nl d hd k).1))), (0, .ref (h 0)), (1, .ref (a 0)), (2, .ref (g 0)), (3, .int (nI d))]) hx hb dX0_addBranches_67 hl (k := 0) rfl (nI_1 _) (by decide) rfl (fun ls hl => ?_)
                refine lv_goto (tgt := 6) hx hb dX0_addBranches_70 (by decide) ?_
                have hl := lv_re (f := fun z9 => [(5, .int (nI (k + 1))), (4, .int z9), (0, .ref (h 0)), (1, .ref (a 0)), (2, .ref (g 0)), (3, .int (nI d))]) hl (show nI ((abS dc pa hd2 (ends hd2 nl2) nl d hd k).1) = nI ((abS dc pa hd2 (ends hd2 nl2) nl d hd (k + 1)).1) from congrArg nI (show ((abS dc pa hd2 (ends hd2 nl2) nl d hd k).1) = ((abS dc pa hd2 (ends hd2 nl2) nl d hd (k + 1)).1) from by first | exact congrArg Prod.fst (abS_f (by simp [abC, c12, c23, c32, c42, c51])).symm | (rw [abS_t (dc := dc) (pa := pa) (oh := hd2) (oe := ends hd2 nl2) (nl := nl) (d := d) (hd := hd) (k := k) (by simp [abC, c12, c23, c32, c42, c51])])))
                have e9 : ((abS dc pa hd2 (ends hd2 nl2) nl d hd k).2) = ((abS dc pa hd2 (ends hd2 nl2) nl d hd (k + 1)).2) := by first | exact congrArg Prod.snd (abS_f (by simp [abC, c12, c23, c32, c42, c51])).symm | (rw [abS_t (dc := dc) (pa := pa) (oh := hd2) (oe := ends hd2 nl2) (nl := nl) (d := d) (hd := hd) (k := k) (by simp [abC, c12, c23, c32, c42, c51])])
                have hP := (congrArg (fun z9 => va_P D vwCl (wH ct h z9 nl wi ++ wT ct a n dc pa va dl ge su ++ wH ct g hd2 nl2 wi2) H) e9).mp hP
                have hD := (congrArg (fun z9 => va_D A (wH ct h z9 nl wi ++ wT ct a n dc pa va dl ge su ++ wH ct g hd2 nl2 wi2)) e9).mp hD
                have hP : va_P D vwCl (wH ct h ((abS dc pa hd2 (ends hd2 nl2) nl d hd (k + 1)).2) nl wi ++ wT ct a n dc pa va dl ge su ++ wH ct g hd2 nl2 wi2) H := hP
                have hD : va_D A (wH ct h ((abS dc pa hd2 (ends hd2 nl2) nl d hd (k + 1)).2) nl wi ++ wT ct a n dc pa va dl ge su ++ wH ct g hd2 nl2 wi2) := hD
                exact ih6 (k + 1) (by first | assumption | omega) (by omega) H locs ls hP hD hS (lv_sub hl [0, 1, 2, 3, 4, 5] rfl)
              · refine lv_iload hx hb dX0_addBranches_54 (lv_at hl 1 rfl) ?_
                refine lv_aload_n hx hb dX0_addBranches_56 rfl (lv_at hl 2 rfl) ?_
                refine lv_aload_n hx hb dX0_addBranches_57 rfl (lv_at hl 3 rfl) ?_
                refine lv_aload_n hx hb dX0_addBranches_58 rfl (lv_at hl 4 rfl) ?_
                refine lv_iload hx hb dX0_addBranches_59 (lv_at hl 0 rfl) ?_
                refine r_wVi (As := [.ref (a 0), .ref (g 0), .int (nI k)]) (rest := [.int (nI ((abS dc pa hd2 (ends hd2 nl2) nl d hd k).1))]) ⟨hx, hb, hml, hown, hts⟩ (cX0_addLine_ok l D ct h ((abS dc pa hd2 (ends hd2 nl2) nl d hd k).2) nl wi a n dc pa va dl ge su g hd2 nl2 wi2 k (by first | assumption | omega) (by first | assumption | omega) (by first | assumption | omega) H.size) (cwV 3 hts gX0_addBranches_X0_addLine rfl rfl rfl (by decide +kernel) ⟨Nat.le_of_ble_eq_true rfl, Nat.le_of_ble_eq_true rfl⟩) hK hP hD hS hA [0, 1, 2, 3, 4, 5, 6, 7, 8, 9, 10, 11, 12, 13, 14] rfl rfl rfl 0 0 rfl rfl rfl hl.1 rfl (Nat.le_of_ble_eq_true rfl) dX0_addBranches_61 ⟨Nat.le_of_ble_eq_true rfl, Nat.le_of_ble_eq_true rfl⟩ (fun H locs hP hD hS => ?_)
                have hP : va_P D vwCl (wH ct h ((ln pa hd2 150 (some k) 0 ((abS dc pa hd2 (ends hd2 nl2) nl d hd k).2)).2) nl wi ++ wT ct a n dc pa va dl ge su ++ wH ct g hd2 nl2 wi2) H := hP
                have hD : va_D A (wH ct h ((ln pa hd2 150 (some k) 0 ((abS dc pa hd2 (ends hd2 nl2) nl d hd k).2)).2) nl wi ++ wT ct a n dc pa va dl ge su ++ wH ct g hd2 nl2 wi2) := hD
                refine r_iaddN hx hb dX0_addBranches_64 ?_
                refine lv_istore (lv' := [(4, .int (nI (((abS dc pa hd2 (ends hd2 nl2) nl d hd k).1) + ((ln pa hd2 150 (some k) 0 ((abS dc pa hd2 (ends hd2 nl2) nl d hd k).2)).1)))), (5, .int (nI k)), (0, .ref (h 0)), (1, .ref (a 0)), (2, .ref (g 0)), (3, .int (nI d))]) hx hb dX0_addBranches_65 hl (by decide) rfl (fun ls hl => ?_)
                refine lv_iinc (v := nI (k + 1)) (lv' := [(5, .int (nI (k + 1))), (4, .int (nI (((abS dc pa hd2 (ends hd2 nl2) nl d hd k).1) + ((ln pa hd2 150 (some k) 0 ((abS dc pa hd2 (ends hd2 nl2) nl d hd k).2)).1)))), (0, .ref (h 0)), (1, .ref (a 0)), (2, .ref (g 0)), (3, .int (nI d))]) hx hb dX0_addBranches_67 hl (k := 1) rfl (nI_1 _) (by decide) rfl (fun ls hl => ?_)
                refine lv_goto (tgt := 6) hx hb dX0_addBranches_70 (by decide) ?_
                have hl := lv_re (f := fun z9 => [(5, .int (nI (k + 1))), (4, .int z9), (0, .ref (h 0)), (1, .ref (a 0)), (2, .ref (g 0)), (3, .int (nI d))]) hl (show nI (((abS dc pa hd2 (ends hd2 nl2) nl d hd k).1) + ((ln pa hd2 150 (some k) 0 ((abS dc pa hd2 (ends hd2 nl2) nl d hd k).2)).1)) = nI ((abS dc pa hd2 (ends hd2 nl2) nl d hd (k + 1)).1) from congrArg nI (show (((abS dc pa hd2 (ends hd2 nl2) nl d hd k).1) + ((ln pa hd2 150 (some k) 0 ((abS dc pa hd2 (ends hd2 nl2) nl d hd k).2)).1)) = ((abS dc pa hd2 (ends hd2 nl2) nl d hd (k + 1)).1) from by first | exact congrArg Prod.fst (abS_f (by simp [abC, c12, c23, c32, c42, c51])).symm | (rw [abS_t (dc := dc) (pa := pa) (oh := hd2) (oe := ends hd2 nl2) (nl := nl) (d := d) (hd := hd) (k := k) (by simp [abC, c12, c23, c32, c42, c51])])))
                have e9 : ((ln pa hd2 150 (some k) 0 ((abS dc pa hd2 (ends hd2 nl2) nl d hd k).2)).2) = ((abS dc pa hd2 (ends hd2 nl2) nl d hd (k + 1)).2) := by first | exact congrArg Prod.snd (abS_f (by simp [abC, c12, c23, c32, c42, c51])).symm | (rw [abS_t (dc := dc) (pa := pa) (oh := hd2) (oe := ends hd2 nl2) (nl := nl) (d := d) (hd := hd) (k := k) (by simp [abC, c12, c23, c32, c42, c51])])
                have hP := (congrArg (fun z9 => va_P D vwCl (wH ct h z9 nl wi ++ wT ct a n dc pa va dl ge su ++ wH ct g hd2 nl2 wi2) H) e9).mp hP
                have hD := (congrArg (fun z9 => va_D A (wH ct h z9 nl wi ++ wT ct a n dc pa va dl ge su ++ wH ct g hd2 nl2 wi2)) e9).mp hD
                have hP : va_P D vwCl (wH ct h ((abS dc pa hd2 (ends hd2 nl2) nl d hd (k + 1)).2) nl wi ++ wT ct a n dc pa va dl ge su ++ wH ct g hd2 nl2 wi2) H := hP
                have hD : va_D A (wH ct h ((abS dc pa hd2 (ends hd2 nl2) nl d hd (k + 1)).2) nl wi ++ wT ct a n dc pa va dl ge su ++ wH ct g hd2 nl2 wi2) := hD
                exact ih6 (k + 1) (by first | assumption | omega) (by omega) H locs ls hP hD hS (lv_sub hl [0, 1, 2, 3, 4, 5] rfl)
  have e9 : hd = ((abS dc pa hd2 (ends hd2 nl2) nl d hd 0).2) := rfl
  have hP := (congrArg (fun z9 => va_P D vwCl (wH ct h z9 nl wi ++ wT ct a n dc pa va dl ge su ++ wH ct g hd2 nl2 wi2) s.heap) e9).mp hP
  have hD := (congrArg (fun z9 => va_D A (wH ct h z9 nl wi ++ wT ct a n dc pa va dl ge su ++ wH ct g hd2 nl2 wi2)) e9).mp hD
  have hP : va_P D vwCl (wH ct h ((abS dc pa hd2 (ends hd2 nl2) nl d hd 0).2) nl wi ++ wT ct a n dc pa va dl ge su ++ wH ct g hd2 nl2 wi2) s.heap := hP
  have hD : va_D A (wH ct h ((abS dc pa hd2 (ends hd2 nl2) nl d hd 0).2) nl wi ++ wT ct a n dc pa va dl ge su ++ wH ct g hd2 nl2 wi2) := hD
  exact key6 ((n - 0) + 1) 0 (by first | assumption | omega) (Nat.lt_succ_self _) _ _ ls hP hD hS (lv_sub hl [0, 1, 2, 3, 4, 5] rfl)
