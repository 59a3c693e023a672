set_option maxHeartbeats 8000000 in
set_option maxRecDepth 100000 in
theorem cX4_makes_found (l : Launch) (D : va_G) (ct : Nat → ClassId) (g : Nat → Nat) (n : Nat) (dc : Nat → Nat) (pa : Nat → Option Nat) (va : Nat → Int32) (dl : Nat → Bool) (ge : Nat → Nat) (su : Nat → Int32) (mk : Nat → Bool) (dp : Nat → Int32) (sq : Nat → Int32) (tc : Nat → Int32) (kp : Nat → Int32) (la : Int32) (d : Nat) (o : Option Nat) (v : Int32) (b : Bool) (j : Nat) (hn : n ≤ 150) (hTd : ∀ k, dc k < 4) (hd4 : d < 4) (ho : ∀ j, o = some j → j < n) (hf : ffd (fnd dc pa va dl d o v b) n = some j) : Met l yX4_makes wsX4_makes ({ frames := 0, cells := 0, slots := 0, locals := 0 } : Room) (roPc D ct [.ref (g 0), .int (nI d), .int (eP o), .int v, .int (bI b)] (wM ct g n dc pa va dl ge su mk dp sq tc kp la)) (rqI (nI j)) 0 0 (fun _ => False) := by
  refine Met.ofW (cc := cX4_makes) (maxL := 7) (ret := (some .int)) (by decide) rfl ?_
  intro p e s m args below meth c s₁ B hml hv
  obtain ⟨rfl, hP, hK⟩ := hv
  have hx := B.exec
  have hb := B.bytes
  have hr := B.returns
  have hts := atoms_spec (ws := wsX4_makes) B.pre
  have hown : s.vm.findClass RX4 = some m.cls := findClass_of_methodNamed B.named
  have hlocks := B.notSynchronized
  have hl := lv_entry ([.ref (g 0), .int (nI d), .int (eP o), .int v, .int (bI b)]) (n := 7) (Nat.le_of_ble_eq_true rfl)
  rw [lg_entry_eq]
  generalize (lg_sl ([.ref (g 0), .int (nI d), .int (eP o), .int v, .int (bI b)]) ++ List.replicate (7 - (lg_sl ([.ref (g 0), .int (nI d), .int (eP o), .int v, .int (bI b)])).length) Slot.unset).toArray = ls at hl ⊢
  have hl : lv_has ls 7 [(0, .ref (g 0)), (1, .int (nI d)), (2, .int (eP o)), (3, .int v), (4, .int (bI b))] := hl
  refine lv_iconst (v := nI 0) hx hb dX4_makes_0 (by decide) ?_
  refine lv_istore (lv' := [(5, .int (nI 0)), (0, .ref (g 0)), (1, .int (nI d)), (2, .int (eP o)), (3, .int v), (4, .int (bI b))]) hx hb dX4_makes_1 hl (by decide) rfl (fun ls hl => ?_)
  have key3 : ∀ (d3 : Nat) (k : Nat) (hk : k ≤ n) (hno : ffd (fnd dc pa va dl d o v b) k = none), n - k < d3 → ∀  (ls : Array Slot), lv_has ls 7 [(5, .int (nI k)), (0, .ref (g 0)), (1, .int (nI d)), (2, .int (eP o)), (3, .int v), (4, .int (bI b))] → W p l e ({ frames := 0, cells := 0, slots := 0, locals := 0 } : Room) s m ([.ref (g 0), .int (nI d), .int (eP o), .int v, .int (bI b)] : List Value).toArray below meth c s.heap [] 0 0 (MQ below (rqI (nI j)) ([.ref (g 0), .int (nI d), .int (eP o), .int v, .int (bI b)] : List Value).toArray s 0 0 (fun _ => False)) (F0 m 3 ls []) := by
    intro d3
    induction d3 with
    | zero => intro k hk hno h9; exact absurd h9 (Nat.not_lt_zero _)
    | succ d3 ih3 =>
      intro k hk hno hm3  ls  hl
      refine lv_iload hx hb dX4_makes_3 (lv_at hl 0 rfl) ?_
      refine lv_aload_n hx hb dX4_makes_5 rfl (lv_at hl 1 rfl) ?_
      refine va_get (D := D) (ci := 4) (v := .int (nI n)) (C := RX4) (T := TX4) (N := 13) hx hb hts (fun _ h => List.mem_cons_of_mem _ (List.mem_append_right _ h)) hown hK.1 hP 0 rfl rfl 6 (by decide) (hts (.fieldLink RX4 52 "RevisionStoresModel" "revisions" "I") (List.mem_of_getElem? (i := 1) rfl)) (fun _ h9 => h9) rfl dX4_makes_6 ?_
      refine r_icmp_geN hx hb (x := k) (y := n) (by first | omega | decide) (by first | omega | decide) (tgt := 66) dX4_makes_9 (by decide) (fun c9 => ?_) (fun c9 => ?_)
      · exact absurd hno (by rw [show k = n by omega, hf]; exact fun h => by cases h)
      · refine lv_aload_n hx hb dX4_makes_12 rfl (lv_at hl 1 rfl) ?_
        refine va_get (D := D) (ci := 4) (v := .ref (g 1)) (C := RX4) (T := TX4) (N := 13) hx hb hts (fun _ h => List.mem_cons_of_mem _ (List.mem_append_right _ h)) hown hK.1 hP 0 rfl rfl 0 (by decide) (hts (.fieldLink RX4 7 "RevisionStoresModel" "documents" "[I") (List.mem_of_getElem? (i := 2) rfl)) (fun _ h9 => h9) rfl dX4_makes_13 ?_
        refine lv_iload hx hb dX4_makes_16 (lv_at hl 0 rfl) ?_
        refine r_iald (j := k) (v := nI (dc k)) hx hb hK.1 hP 1 0 rfl rfl (by omega) (by first | decide | omega) rfl dX4_makes_18 ?_
        have f18 := hTd k
        refine lv_iload_n hx hb dX4_makes_19 rfl (lv_at hl 2 rfl) ?_
        refine r_icmp_neN hx hb (x := dc k) (y := d) (by first | omega | decide) (by first | omega | decide) (tgt := 60) dX4_makes_20 (by decide) (fun c20 => ?_) (fun c20 => ?_)
        · refine lv_iinc (v := nI (k + 1)) (lv' := [(5, .int (nI (k + 1))), (0, .ref (g 0)), (1, .int (nI d)), (2, .int (eP o)), (3, .int v), (4, .int (bI b))]) hx hb dX4_makes_60 hl (k := 0) rfl (nI_1 _) (by decide) rfl (fun ls hl => ?_)
          refine lv_goto (tgt := 3) hx hb dX4_makes_63 (by decide) ?_
          exact ih3 (k + 1) (by first | assumption | omega) (ffd_no hno (by simp [fnd, c9, c20])) (by omega)  ls  (lv_sub hl [0, 1, 2, 3, 4, 5] rfl)
        · refine lv_aload_n hx hb dX4_makes_23 rfl (lv_at hl 1 rfl) ?_
          refine va_get (D := D) (ci := 4) (v := .ref (g 2)) (C := RX4) (T := TX4) (N := 13) hx hb hts (fun _ h => List.mem_cons_of_mem _ (List.mem_append_right _ h)) hown hK.1 hP 0 rfl rfl 1 (by decide) (hts (.fieldLink RX4 13 "RevisionStoresModel" "parents" "[I") (List.mem_of_getElem? (i := 3) rfl)) (fun _ h9 => h9) rfl dX4_makes_24 ?_
          refine lv_iload hx hb dX4_makes_27 (lv_at hl 0 rfl) ?_
          refine r_iald (j := k) (v := eP (pa k)) hx hb hK.1 hP 2 0 rfl rfl (by omega) (by first | decide | omega) rfl dX4_makes_29 ?_
          refine lv_iload_n hx hb dX4_makes_30 rfl (lv_at hl 3 rfl) ?_
          refine lv_icmp_ne (x := eP (pa k)) (y := eP o) (tgt := 60) hx hb dX4_makes_31 (by decide) (fun c31 => ?_) (fun c31 => ?_)
          · refine lv_iinc (v := nI (k + 1)) (lv' := [(5, .int (nI (k + 1))), (0, .ref (g 0)), (1, .int (nI d)), (2, .int (eP o)), (3, .int v), (4, .int (bI b))]) hx hb dX4_makes_60 hl (k := 0) rfl (nI_1 _) (by decide) rfl (fun ls hl => ?_)
            refine lv_goto (tgt := 3) hx hb dX4_makes_63 (by decide) ?_
            exact ih3 (k + 1) (by first | assumption | omega) (ffd_no hno (by simp [fnd, c9, c20, c31])) (by omega)  ls  (lv_sub hl [0, 1, 2, 3, 4, 5] rfl)
          · refine lv_aload_n hx hb dX4_makes_34 rfl (lv_at hl 1 rfl) ?_
            refine va_get (D := D) (ci := 4) (v := .ref (g 3)) (C := RX4) (T := TX4) (N := 13) hx hb hts (fun _ h => List.mem_cons_of_mem _ (List.mem_append_right _ h)) hown hK.1 hP 0 rfl rfl 2 (by decide) (hts (.fieldLink RX4 16 "RevisionStoresModel" "values" "[I") (List.mem_of_getElem? (i := 4) rfl)) (fun _ h9 => h9) rfl dX4_makes_35 ?_
            refine lv_iload hx hb dX4_makes_38 (lv_at hl 0 rfl) ?_
            refine r_iald (j := k) (v := va k) hx hb hK.1 hP 3 0 rfl rfl (by omega) (by first | decide | omega) rfl dX4_makes_40 ?_
            refine lv_iload_n hx hb dX4_makes_41 rfl (lv_at hl 4 rfl) ?_
            refine lv_icmp_ne (x := va k) (y := v) (tgt := 60) hx hb dX4_makes_42 (by decide) (fun c42 => ?_) (fun c42 => ?_)
            · refine lv_iinc (v := nI (k + 1)) (lv' := [(5, .int (nI (k + 1))), (0, .ref (g 0)), (1, .int (nI d)), (2, .int (eP o)), (3, .int v), (4, .int (bI b))]) hx hb dX4_makes_60 hl (k := 0) rfl (nI_1 _) (by decide) rfl (fun ls hl => ?_)
              refine lv_goto (tgt := 3) hx hb dX4_makes_63 (by decide) ?_
              exact ih3 (k + 1) (by first | assumption | omega) (ffd_no hno (by simp [fnd, c9, c20, c31, c42])) (by omega)  ls  (lv_sub hl [0, 1, 2, 3, 4, 5] rfl)
            · refine lv_aload_n hx hb dX4_makes_45 rfl (lv_at hl 1 rfl) ?_
              refine va_get (D := D) (ci := 4) (v := .ref (g 4)) (C := RX4) (T := TX4) (N := 13) hx hb hts (fun _ h => List.mem_cons_of_mem _ (List.mem_append_right _ h)) hown hK.1 hP 0 rfl rfl 3 (by decide) (hts (.fieldLink RX4 19 "RevisionStoresModel" "deletions" "[Z") (List.mem_of_getElem? (i := 5) rfl)) (fun _ h9 => h9) rfl dX4_makes_46 ?_
              refine lv_iload hx hb dX4_makes_49 (lv_at hl 0 rfl) ?_
              refine r_zald (j := k) (v := bI (dl k)) hx hb hK.1 hP 4 1 rfl rfl (by omega) (by first | decide | omega) rfl dX4_makes_51 ?_
              refine lv_iload hx hb dX4_makes_52 (lv_at hl 5 rfl) ?_
              refine r_icmp_neB (x := dl k) (y := b) (tgt := 60) hx hb dX4_makes_54 (by decide) (fun c54 => ?_) (fun c54 => ?_)
              · refine lv_iinc (v := nI (k + 1)) (lv' := [(5, .int (nI (k + 1))), (0, .ref (g 0)), (1, .int (nI d)), (2, .int (eP o)), (3, .int v), (4, .int (bI b))]) hx hb dX4_makes_60 hl (k := 0) rfl (nI_1 _) (by decide) rfl (fun ls hl => ?_)
                refine lv_goto (tgt := 3) hx hb dX4_makes_63 (by decide) ?_
                exact ih3 (k + 1) (by first | assumption | omega) (ffd_no hno (by simp [fnd, c9, c20, c31, c42, c54])) (by omega)  ls  (lv_sub hl [0, 1, 2, 3, 4, 5] rfl)
              · refine lv_iload hx hb dX4_makes_57 (lv_at hl 0 rfl) ?_
                refine r_top (y := nI j) (congrArg nI (show k = j from by have e9 := ffd_hit (n := n) hno (by simp [fnd, c9, c20, c31, c42, c54]) (by omega); rw [hf] at e9; exact (Option.some.inj e9).symm)) ?_
                exact W.iret hx hb hr (fun t ht hW => ⟨_, rfl, rfl, ht⟩) (fun _ h => by cases h) dX4_makes_59
  exact key3 ((n - 0) + 1) 0 (by first | assumption | omega) (rfl) (Nat.lt_succ_self _)  ls  (lv_sub hl [0, 1, 2, 3, 4, 5] rfl)
set_option maxHeartbeats 8000000 in
set_option maxRecDepth 100000 in
theorem cX4_makes_new (l : Launch) (D : va_G) (ct : Nat → ClassId) (g : Nat → Nat) (n : Nat) (dc : Nat → Nat) (pa : Nat → Option Nat) (va : Nat → Int32) (dl : Nat → Bool) (ge : Nat → Nat) (su : Nat → Int32) (mk : Nat → Bool) (dp : Nat → Int32) (sq : Nat → Int32) (tc : Nat → Int32) (kp : Nat → Int32) (la : Int32) (d : Nat) (o : Option Nat) (v : Int32) (b : Bool) (hn : n < 150) (hTd : ∀ k, dc k < 4) (hTg : ∀ k, ge k ≤ 150) (hd4 : d < 4) (ho : ∀ j, o = some j → j < n) (hf : ffd (fnd dc pa va dl d o v b) n = none) (sz : Nat) : Met l yX4_makes wsX4_makes ({ frames := 0, cells := 0, slots := 0, locals := 0 } : Room) (wrPc D ct [.ref (g 0), .int (nI d), .int (eP o), .int v, .int (bI b)] (wM ct g n dc pa va dl ge su mk dp sq tc kp la) sz) (wqI D (nI n) (wM ct g (n + 1) (va_up dc n d) (va_up pa n o) (va_up va n v) (va_up dl n b) (va_up ge n (mkg ge o)) (va_up su n (mksu ge su o v b)) mk dp sq tc kp la) (va_A (wM ct g n dc pa va dl ge su mk dp sq tc kp la) sz)) 0 0 (va_A (wM ct g n dc pa va dl ge su mk dp sq tc kp la) sz) := by
  refine Met.ofW (cc := cX4_makes) (maxL := 7) (ret := (some .int)) (by decide) rfl ?_
  intro p e s m args below meth c s₁ B hml hv
  obtain ⟨rfl, hsz, hP, hK, hD0⟩ := hv
  have hx := B.exec
  have hb := B.bytes
  have hr := B.returns
  have hts := atoms_spec (ws := wsX4_makes) B.pre
  have hown : s.vm.findClass RX4 = some m.cls := findClass_of_methodNamed B.named
  have hlocks := B.notSynchronized
  subst hsz
  have hD := hD0.self (sz := s.heap.size)
  generalize hAe : va_A (wM ct g n dc pa va dl ge su mk dp sq tc kp la) s.heap.size = A at hD ⊢
  have hA : ∀ q : Nat, s.heap.size ≤ q → A q := fun q h => by rw [← hAe]; exact Or.inr h
  have hS : va_S A s.heap s.heap [] := va_S.rf
  have hP : va_P D vwCl (wM ct g n dc pa va dl ge su mk dp sq tc kp la) s.heap := hP
  clear hAe hD0
  have hl := lv_entry ([.ref (g 0), .int (nI d), .int (eP o), .int v, .int (bI b)]) (n := 7) (Nat.le_of_ble_eq_true rfl)
  rw [lg_entry_eq]
  generalize (lg_sl ([.ref (g 0), .int (nI d), .int (eP o), .int v, .int (bI b)]) ++ List.replicate (7 - (lg_sl ([.ref (g 0), .int (nI d), .int (eP o), .int v, .int (bI b)])).length) Slot.unset).toArray = ls at hl ⊢
  have hl : lv_has ls 7 [(0, .ref (g 0)), (1, .int (nI d)), (2, .int (eP o)), (3, .int v), (4, .int (bI b))] := hl
  have hH0 : s.heap.size ≤ s.heap.size := Nat.le_refl _
  refine lv_iconst (v := nI 0) hx hb dX4_makes_0 (by decide) ?_
  refine lv_istore (lv' := [(5, .int (nI 0)), (0, .ref (g 0)), (1, .int (nI d)), (2, .int (eP o)), (3, .int v), (4, .int (bI b))]) hx hb dX4_makes_1 hl (by decide) rfl (fun ls hl => ?_)
  have key3 : ∀ (d3 : Nat) (k : Nat) (hk : k ≤ n) (hno : ffd (fnd dc pa va dl d o v b) k = none), n - k < d3 → ∀ (H : Heap) (locs : List Loc) (ls : Array Slot), va_P D vwCl (wM ct g n dc pa va dl ge su mk dp sq tc kp la) H → va_D A (wM ct g n dc pa va dl ge su mk dp sq tc kp la) → va_S A s.heap H locs → lv_has ls 7 [(5, .int (nI k)), (0, .ref (g 0)), (1, .int (nI d)), (2, .int (eP o)), (3, .int v), (4, .int (bI b))] → W p l e ({ frames := 0, cells := 0, slots := 0, locals := 0 } : Room) s m ([.ref (g 0), .int (nI d), .int (eP o), .int v, .int (bI b)] : List Value).toArray below meth c H locs 0 0 (MQ below (wqI D (nI n) (wM ct g (n + 1) (va_up dc n d) (va_up pa n o) (va_up va n v) (va_up dl n b) (va_up ge n (mkg ge o)) (va_up su n (mksu ge su o v b)) mk dp sq tc kp la) A) ([.ref (g 0), .int (nI d), .int (eP o), .int v, .int (bI b)] : List Value).toArray s 0 0 A) (F0 m 3 ls []) := by
    intro d3
    induction d3 with
    | zero => intro k hk hno h9; exact absurd h9 (Nat.not_lt_zero _)
    | succ d3 ih3 =>
      intro k hk hno hm3 H locs ls hP hD hS hl
      refine lv_iload hx hb dX4_makes_3 (lv_at hl 0 rfl) ?_
      refine lv_aload_n hx hb dX4_makes_5 rfl (lv_at hl 1 rfl) ?_
      refine va_get (D := D) (ci := 4) (v := .int (nI n)) (C := RX4) (T := TX4) (N := 13) hx hb hts (fun _ h => List.mem_cons_of_mem _ (List.mem_append_right _ h)) hown hK.1 hP 0 rfl rfl 6 (by decide) (hts (.fieldLink RX4 52 "RevisionStoresModel" "revisions" "I") (List.mem_of_getElem? (i := 1) rfl)) (fun _ h9 => h9) rfl dX4_makes_6 ?_
      refine r_icmp_geN hx hb (x := k) (y := n) (by first | omega | decide) (by first | omega | decide) (tgt := 66) dX4_makes_9 (by decide) (fun c9 => ?_) (fun c9 => ?_)
      · refine lv_iload_n hx hb dX4_makes_66 rfl (lv_at hl 3 rfl) ?_
        refine lv_iconst (v := -1) hx hb dX4_makes_67 (by decide) ?_
        refine r_icmp_neP hx hb (x := o) (by intro j9 h9; have := ho _ h9; omega) (tgt := 75) dX4_makes_68 (by decide) (fun j68 c68 => ?_) (fun c68 => ?_)
        · have hl := lv_re (f := fun z9 => [(5, .int (nI k)), (0, .ref (g 0)), (1, .int (nI d)), (2, .int z9), (3, .int v), (4, .int (bI b))]) hl (show eP o = nI j68 from congrArg eP c68)
          have e75 := ho _ c68
          refine lv_aload_n hx hb dX4_makes_75 rfl (lv_at hl 1 rfl) ?_
          refine va_get (D := D) (ci := 4) (v := .ref (g 5)) (C := RX4) (T := TX4) (N := 13) hx hb hts (fun _ h => List.mem_cons_of_mem _ (List.mem_append_right _ h)) hown hK.1 hP 0 rfl rfl 4 (by decide) (hts (.fieldLink RX4 23 "RevisionStoresModel" "generations" "[I") (List.mem_of_getElem? (i := 6) rfl)) (fun _ h9 => h9) rfl dX4_makes_76 ?_
          refine lv_iload_n hx hb dX4_makes_79 rfl (lv_at hl 3 rfl) ?_
          refine r_iald (j := j68) (v := nI (ge j68)) hx hb hK.1 hP 5 0 rfl rfl (by omega) (by first | decide | omega) rfl dX4_makes_80 ?_
          have f80 := hTg j68
          refine lv_iconst (v := nI 1) hx hb dX4_makes_81 (by decide) ?_
          refine r_iaddN hx hb dX4_makes_82 ?_
          refine lv_istore (lv' := [(5, .int (nI ((ge j68) + 1))), (0, .ref (g 0)), (1, .int (nI d)), (2, .int (nI j68)), (3, .int v), (4, .int (bI b))]) hx hb dX4_makes_83 hl (by decide) rfl (fun ls hl => ?_)
          refine lv_iload_n hx hb dX4_makes_85 rfl (lv_at hl 3 rfl) ?_
          refine lv_iconst (v := -1) hx hb dX4_makes_86 (by decide) ?_
          refine r_icmp_neN1 hx hb (x := j68) (by first | omega | decide) (tgt := 95) dX4_makes_87 (by decide) ?_
          refine lv_bipush (v := nI 31) hx hb dX4_makes_95 (by decide) ?_
          refine lv_aload_n hx hb dX4_makes_97 rfl (lv_at hl 1 rfl) ?_
          refine va_get (D := D) (ci := 4) (v := .ref (g 6)) (C := RX4) (T := TX4) (N := 13) hx hb hts (fun _ h => List.mem_cons_of_mem _ (List.mem_append_right _ h)) hown hK.1 hP 0 rfl rfl 5 (by decide) (hts (.fieldLink RX4 26 "RevisionStoresModel" "sums" "[I") (List.mem_of_getElem? (i := 7) rfl)) (fun _ h9 => h9) rfl dX4_makes_98 ?_
          refine lv_iload_n hx hb dX4_makes_101 rfl (lv_at hl 3 rfl) ?_
          refine r_iald (j := j68) (v := su j68) hx hb hK.1 hP 6 0 rfl rfl (by omega) (by first | decide | omega) rfl dX4_makes_102 ?_
          refine lv_imul hx hb dX4_makes_103 ?_
          refine lv_istore (lv' := [(6, .int ((nI 31) * (su j68))), (5, .int (nI ((ge j68) + 1))), (0, .ref (g 0)), (1, .int (nI d)), (2, .int (nI j68)), (3, .int v), (4, .int (bI b))]) hx hb dX4_makes_104 hl (by decide) rfl (fun ls hl => ?_)
          refine lv_aload_n hx hb dX4_makes_106 rfl (lv_at hl 2 rfl) ?_
          refine va_get (D := D) (ci := 4) (v := .ref (g 1)) (C := RX4) (T := TX4) (N := 13) hx hb hts (fun _ h => List.mem_cons_of_mem _ (List.mem_append_right _ h)) hown hK.1 hP 0 rfl rfl 0 (by decide) (hts (.fieldLink RX4 7 "RevisionStoresModel" "documents" "[I") (List.mem_of_getElem? (i := 2) rfl)) (fun _ h9 => h9) rfl dX4_makes_107 ?_
          refine lv_aload_n hx hb dX4_makes_110 rfl (lv_at hl 2 rfl) ?_
          refine va_get (D := D) (ci := 4) (v := .int (nI n)) (C := RX4) (T := TX4) (N := 13) hx hb hts (fun _ h => List.mem_cons_of_mem _ (List.mem_append_right _ h)) hown hK.1 hP 0 rfl rfl 6 (by decide) (hts (.fieldLink RX4 52 "RevisionStoresModel" "revisions" "I") (List.mem_of_getElem? (i := 1) rfl)) (fun _ h9 => h9) rfl dX4_makes_111 ?_
          refine lv_iload_n hx hb dX4_makes_114 rfl (lv_at hl 3 rfl) ?_
          refine r_iast (j := n) (x := (nI d)) (f' := fun q9 => nI ((va_up dc n d) q9)) hx hb hK.1 hP hD hS 1 0 rfl rfl (by omega) (by first | decide | omega) (up_n _ _ _) dX4_makes_115 (fun H locs hP hD hS => ?_)
          have hP : va_P D vwCl (wM ct g n (va_up dc n d) pa va dl ge su mk dp sq tc kp la) H := hP
          have hD : va_D A (wM ct g n (va_up dc n d) pa va dl ge su mk dp sq tc kp la) := hD
          refine lv_aload_n hx hb dX4_makes_116 rfl (lv_at hl 2 rfl) ?_
          refine va_get (D := D) (ci := 4) (v := .ref (g 2)) (C := RX4) (T := TX4) (N := 13) hx hb hts (fun _ h => List.mem_cons_of_mem _ (List.mem_append_right _ h)) hown hK.1 hP 0 rfl rfl 1 (by decide) (hts (.fieldLink RX4 13 "RevisionStoresModel" "parents" "[I") (List.mem_of_getElem? (i := 3) rfl)) (fun _ h9 => h9) rfl dX4_makes_117 ?_
          refine lv_aload_n hx hb dX4_makes_120 rfl (lv_at hl 2 rfl) ?_
          refine va_get (D := D) (ci := 4) (v := .int (nI n)) (C := RX4) (T := TX4) (N := 13) hx hb hts (fun _ h => List.mem_cons_of_mem _ (List.mem_append_right _ h)) hown hK.1 hP 0 rfl rfl 6 (by decide) (hts (.fieldLink RX4 52 "RevisionStoresModel" "revisions" "I") (List.mem_of_getElem? (i := 1) rfl)) (fun _ h9 => h9) rfl dX4_makes_121 ?_
          refine lv_iload_n hx hb dX4_makes_124 rfl (lv_at hl 4 rfl) ?_
          refine r_iast (j := n) (x := (eP (some j68))) (f' := fun q9 => eP ((va_up pa n (some j68)) q9)) hx hb hK.1 hP hD hS 2 0 rfl rfl (by omega) (by first | decide | omega) (up_p _ _ _) dX4_makes_125 (fun H locs hP hD hS => ?_)
          have hP : va_P D vwCl (wM ct g n (va_up dc n d) (va_up pa n (some j68)) va dl ge su mk dp sq tc kp la) H := hP
          have hD : va_D A (wM ct g n (va_up dc n d) (va_up pa n (some j68)) va dl ge su mk dp sq tc kp la) := hD
          refine lv_aload_n hx hb dX4_makes_126 rfl (lv_at hl 2 rfl) ?_
          refine va_get (D := D) (ci := 4) (v := .ref (g 3)) (C := RX4) (T := TX4) (N := 13) hx hb hts (fun _ h => List.mem_cons_of_mem _ (List.mem_append_right _ h)) hown hK.1 hP 0 rfl rfl 2 (by decide) (hts (.fieldLink RX4 16 "RevisionStoresModel" "values" "[I") (List.mem_of_getElem? (i := 4) rfl)) (fun _ h9 => h9) rfl dX4_makes_127 ?_
          refine lv_aload_n hx hb dX4_makes_130 rfl (lv_at hl 2 rfl) ?_
          refine va_get (D := D) (ci := 4) (v := .int (nI n)) (C := RX4) (T := TX4) (N := 13) hx hb hts (fun _ h => List.mem_cons_of_mem _ (List.mem_append_right _ h)) hown hK.1 hP 0 rfl rfl 6 (by decide) (hts (.fieldLink RX4 52 "RevisionStoresModel" "revisions" "I") (List.mem_of_getElem? (i := 1) rfl)) (fun _ h9 => h9) rfl dX4_makes_131 ?_
          refine lv_iload_n hx hb dX4_makes_134 rfl (lv_at hl 5 rfl) ?_
          refine r_iast (j := n) (x := v) (f' := va_up va n v) hx hb hK.1 hP hD hS 3 0 rfl rfl (by omega) (by first | decide | omega) (up_i _ _ _) dX4_makes_135 (fun H locs hP hD hS => ?_)
          have hP : va_P D vwCl (wM ct g n (va_up dc n d) (va_up pa n (some j68)) (va_up va n v) dl ge su mk dp sq tc kp la) H := hP
          have hD : va_D A (wM ct g n (va_up dc n d) (va_up pa n (some j68)) (va_up va n v) dl ge su mk dp sq tc kp la) := hD
          refine lv_aload_n hx hb dX4_makes_136 rfl (lv_at hl 2 rfl) ?_
          refine va_get (D := D) (ci := 4) (v := .ref (g 4)) (C := RX4) (T := TX4) (N := 13) hx hb hts (fun _ h => List.mem_cons_of_mem _ (List.mem_append_right _ h)) hown hK.1 hP 0 rfl rfl 3 (by decide) (hts (.fieldLink RX4 19 "RevisionStoresModel" "deletions" "[Z") (List.mem_of_getElem? (i := 5) rfl)) (fun _ h9 => h9) rfl dX4_makes_137 ?_
          refine lv_aload_n hx hb dX4_makes_140 rfl (lv_at hl 2 rfl) ?_
          refine va_get (D := D) (ci := 4) (v := .int (nI n)) (C := RX4) (T := TX4) (N := 13) hx hb hts (fun _ h => List.mem_cons_of_mem _ (List.mem_append_right _ h)) hown hK.1 hP 0 rfl rfl 6 (by decide) (hts (.fieldLink RX4 52 "RevisionStoresModel" "revisions" "I") (List.mem_of_getElem? (i := 1) rfl)) (fun _ h9 => h9) rfl dX4_makes_141 ?_
          refine lv_iload hx hb dX4_makes_144 (lv_at hl 6 rfl) ?_
          refine r_zast (j := n) (x := b) (f' := fun q9 => bI ((va_up dl n b) q9)) hx hb hK.1 hP hD hS 4 1 rfl rfl (by omega) (by first | decide | omega) (up_b _ _ _) dX4_makes_146 (fun H locs hP hD hS => ?_)
          have hP : va_P D vwCl (wM ct g n (va_up dc n d) (va_up pa n (some j68)) (va_up va n v) (va_up dl n b) ge su mk dp sq tc kp la) H := hP
          have hD : va_D A (wM ct g n (va_up dc n d) (va_up pa n (some j68)) (va_up va n v) (va_up dl n b) ge su mk dp sq tc kp la) := hD
          refine lv_aload_n hx hb dX4_makes_147 rfl (lv_at hl 2 rfl) ?_
          refine va_get (D := D) (ci := 4) (v := .ref (g 5)) (C := RX4) (T := TX4) (N := 13) hx hb hts (fun _ h => List.mem_cons_of_mem _ (List.mem_append_right _ h)) hown hK.1 hP 0 rfl rfl 4 (by decide) (hts (.fieldLink RX4 23 "RevisionStoresModel" "generations" "[I") (List.mem_of_getElem? (i := 6) rfl)) (fun _ h9 => h9) rfl dX4_makes_148 ?_
          refine lv_aload_n hx hb dX4_makes_151 rfl (lv_at hl 2 rfl) ?_
          refine va_get (D := D) (ci := 4) (v := .int (nI n)) (C := RX4) (T := TX4) (N := 13) hx hb hts (fun _ h => List.mem_cons_of_mem _ (List.mem_append_right _ h)) hown hK.1 hP 0 rfl rfl 6 (by decide) (hts (.fieldLink RX4 52 "RevisionStoresModel" "revisions" "I") (List.mem_of_getElem? (i := 1) rfl)) (fun _ h9 => h9) rfl dX4_makes_152 ?_
          refine lv_iload hx hb dX4_makes_155 (lv_at hl 1 rfl) ?_
          refine r_iast (j := n) (x := (nI ((ge j68) + 1))) (f' := fun q9 => nI ((va_up ge n ((ge j68) + 1)) q9)) hx hb hK.1 hP hD hS 5 0 rfl rfl (by omega) (by first | decide | omega) (up_n _ _ _) dX4_makes_157 (fun H locs hP hD hS => ?_)
          have hP : va_P D vwCl (wM ct g n (va_up dc n d) (va_up pa n (some j68)) (va_up va n v) (va_up dl n b) (va_up ge n ((ge j68) + 1)) su mk dp sq tc kp la) H := hP
          have hD : va_D A (wM ct g n (va_up dc n d) (va_up pa n (some j68)) (va_up va n v) (va_up dl n b) (va_up ge n ((ge j68) + 1)) su mk dp sq tc kp la) := hD
          refine lv_aload_n hx hb dX4_makes_158 rfl (lv_at hl 2 rfl) ?_
          refine va_get (D := D) (ci := 4) (v := .ref (g 6)) (C := RX4) (T := TX4) (N := 13) hx hb hts (fun _ h => List.mem_cons_of_mem _ (List.mem_append_right _ h)) hown hK.1 hP 0 rfl rfl 5 (by decide) (hts (.fieldLink RX4 26 "RevisionStoresModel" "sums" "[I") (List.mem_of_getElem? (i := 7) rfl)) (fun _ h9 => h9) rfl dX4_makes_159 ?_
          refine lv_aload_n hx hb dX4_makes_162 rfl (lv_at hl 2 rfl) ?_
          refine va_get (D := D) (ci := 4) (v := .int (nI n)) (C := RX4) (T := TX4) (N := 13) hx hb hts (fun _ h => List.mem_cons_of_mem _ (List.mem_append_right _ h)) hown hK.1 hP 0 rfl rfl 6 (by decide) (hts (.fieldLink RX4 52 "RevisionStoresModel" "revisions" "I") (List.mem_of_getElem? (i := 1) rfl)) (fun _ h9 => h9) rfl dX4_makes_163 ?_
          refine lv_iload hx hb dX4_makes_166 (lv_at hl 0 rfl) ?_
          refine lv_bipush (v := nI 7) hx hb dX4_makes_168 (by decide) ?_
          refine lv_iload_n hx hb dX4_makes_170 rfl (lv_at hl 5 rfl) ?_
          refine lv_imul hx hb dX4_makes_171 ?_
          refine lv_iadd hx hb dX4_makes_172 ?_
          refine lv_iload hx hb dX4_makes_173 (lv_at hl 1 rfl) ?_
          refine lv_iadd hx hb dX4_makes_175 ?_
          refine lv_iload hx hb dX4_makes_176 (lv_at hl 6 rfl) ?_
          refine r_if_eqB (x := b) (tgt := 185) hx hb dX4_makes_178 (by decide) (fun c178 => ?_) (fun c178 => ?_)
          · refine lv_iconst (v := nI 0) hx hb dX4_makes_185 (by decide) ?_
            refine lv_iadd hx hb dX4_makes_186 ?_
            refine lv_sipush (v := nI 997) hx hb dX4_makes_187 (by decide) ?_
            refine lv_irem hx hb dX4_makes_190 (by decide) ?_
            refine r_top (y := mksu ge su o v b) (by simp [mksu, mkh, mkg, mkr, c9, c68, c178]) ?_
            refine r_iast (j := n) (x := (mksu ge su o v b)) (f' := va_up su n (mksu ge su o v b)) hx hb hK.1 hP hD hS 6 0 rfl rfl (by omega) (by first | decide | omega) (up_i _ _ _) dX4_makes_191 (fun H locs hP hD hS => ?_)
            have hP : va_P D vwCl (wM ct g n (va_up dc n d) (va_up pa n (some j68)) (va_up va n v) (va_up dl n b) (va_up ge n ((ge j68) + 1)) (va_up su n (mksu ge su o v b)) mk dp sq tc kp la) H := hP
            have hD : va_D A (wM ct g n (va_up dc n d) (va_up pa n (some j68)) (va_up va n v) (va_up dl n b) (va_up ge n ((ge j68) + 1)) (va_up su n (mksu ge su o v b)) mk dp sq tc kp la) := hD
            refine lv_aload_n hx hb dX4_makes_192 rfl (lv_at hl 2 rfl) ?_
            refine lv_dup hx hb dX4_makes_193 rfl ?_
            refine va_get (D := D) (ci := 4) (v := .int (nI n)) (C := RX4) (T := TX4) (N := 13) hx hb hts (fun _ h => List.mem_cons_of_mem _ (List.mem_append_right _ h)) hown hK.1 hP 0 rfl rfl 6 (by decide) (hts (.fieldLink RX4 52 "RevisionStoresModel" "revisions" "I") (List.mem_of_getElem? (i := 1) rfl)) (fun _ h9 => h9) rfl dX4_makes_194 ?_
            refine lv_iconst (v := nI 1) hx hb dX4_makes_197 (by decide) ?_
            refine r_iaddN hx hb dX4_makes_198 ?_
            refine va_put (D := D) (ci := 4) (v := .int (nI (n + 1))) (ty := .int) (C := RX4) (T := TX4) (N := 13) hx hb hts (fun _ h => List.mem_cons_of_mem _ (List.mem_append_right _ h)) tyX4 tyX4_ok nmX4 hown hK.1 hP hD hS 0 rfl rfl 6 (by decide) (hts (.fieldLink RX4 52 "RevisionStoresModel" "revisions" "I") (List.mem_of_getElem? (i := 1) rfl)) (fun _ h9 => h9) rfl (by decide +kernel) rfl rfl (Nat.le_of_ble_eq_true rfl) dX4_makes_199 (fun H locs hP hD hS => ?_)
            have hP : va_P D vwCl (wM ct g (n + 1) (va_up dc n d) (va_up pa n (some j68)) (va_up va n v) (va_up dl n b) (va_up ge n ((ge j68) + 1)) (va_up su n (mksu ge su o v b)) mk dp sq tc kp la) H := hP
            have hD : va_D A (wM ct g (n + 1) (va_up dc n d) (va_up pa n (some j68)) (va_up va n v) (va_up dl n b) (va_up ge n ((ge j68) + 1)) (va_up su n (mksu ge su o v b)) mk dp sq tc kp la) := hD
            refine lv_aload_n hx hb dX4_makes_202 rfl (lv_at hl 2 rfl) ?_
            refine va_get (D := D) (ci := 4) (v := .int (nI (n + 1))) (C := RX4) (T := TX4) (N := 13) hx hb hts (fun _ h => List.mem_cons_of_mem _ (List.mem_append_right _ h)) hown hK.1 hP 0 rfl rfl 6 (by decide) (hts (.fieldLink RX4 52 "RevisionStoresModel" "revisions" "I") (List.mem_of_getElem? (i := 1) rfl)) (fun _ h9 => h9) rfl dX4_makes_203 ?_
            refine lv_iconst (v := nI 1) hx hb dX4_makes_206 (by decide) ?_
            refine lv_isub hx hb dX4_makes_207 ?_
            refine r_top (y := eP (prd (n + 1))) (nI_prd2 _) ?_
            refine r_top (y := nI n) (rfl) ?_
            have e9 : (va_up pa n (some j68)) = (va_up pa n o) := by simp [c9, c68, c178]
            have hP := (congrArg (fun z9 => va_P D vwCl (wM ct g (n + 1) (va_up dc n d) z9 (va_up va n v) (va_up dl n b) (va_up ge n ((ge j68) + 1)) (va_up su n (mksu ge su o v b)) mk dp sq tc kp la) H) e9).mp hP
            have e9 : (va_up ge n ((ge j68) + 1)) = (va_up ge n (mkg ge o)) := by simp [mkg, c9, c68, c178]
            have hP := (congrArg (fun z9 => va_P D vwCl (wM ct g (n + 1) (va_up dc n d) (va_up pa n o) (va_up va n v) (va_up dl n b) z9 (va_up su n (mksu ge su o v b)) mk dp sq tc kp la) H) e9).mp hP
            have hP : va_P D vwCl (wM ct g (n + 1) (va_up dc n d) (va_up pa n o) (va_up va n v) (va_up dl n b) (va_up ge n (mkg ge o)) (va_up su n (mksu ge su o v b)) mk dp sq tc kp la) H := hP
            exact W.iret hx hb hr (fun t ht hW => ⟨⟨_, (), rfl, rfl, by show va_P D vwCl _ t.heap; rw [ht]; exact hP⟩, hS.F ht⟩) hS.2.2 dX4_makes_208
          · refine lv_iconst (v := nI 3) hx hb dX4_makes_181 (by decide) ?_
            refine lv_goto (tgt := 186) hx hb dX4_makes_182 (by decide) ?_
            refine lv_iadd hx hb dX4_makes_186 ?_
            refine lv_sipush (v := nI 997) hx hb dX4_makes_187 (by decide) ?_
            refine lv_irem hx hb dX4_makes_190 (by decide) ?_
            refine r_top (y := mksu ge su o v b) (by simp [mksu, mkh, mkg, mkr, c9, c68, c178]) ?_
            refine r_iast (j := n) (x := (mksu ge su o v b)) (f' := va_up su n (mksu ge su o v b)) hx hb hK.1 hP hD hS 6 0 rfl rfl (by omega) (by first | decide | omega) (up_i _ _ _) dX4_makes_191 (fun H locs hP hD hS => ?_)
            have hP : va_P D vwCl (wM ct g n (va_up dc n d) (va_up pa n (some j68)) (va_up va n v) (va_up dl n b) (va_up ge n ((ge j68) + 1)) (va_up su n (mksu ge su o v b)) mk dp sq tc kp la) H := hP
            have hD : va_D A (wM ct g n (va_up dc n d) (va_up pa n (some j68)) (va_up va n v) (va_up dl n b) (va_up ge n ((ge j68) + 1)) (va_up su n (mksu ge su o v b)) mk dp sq tc kp la) := hD
            refine lv_aload_n hx hb dX4_makes_192 rfl (lv_at hl 2 rfl) ?_
            refine lv_dup hx hb dX4_makes_193 rfl ?_
            refine va_get (D := D) (ci := 4) (v := .int (nI n)) (C := RX4) (T := TX4) (N := 13) hx hb hts (fun _ h => List.mem_cons_of_mem _ (List.mem_append_right _ h)) hown hK.1 hP 0 rfl rfl 6 (by decide) (hts (.fieldLink RX4 52 "RevisionStoresModel" "revisions" "I") (List.mem_of_getElem? (i := 1) rfl)) (fun _ h9 => h9) rfl dX4_makes_194 ?_
            refine lv_iconst (v := nI 1) hx hb dX4_makes_197 (by decide) ?_
            refine r_iaddN hx hb dX4_makes_198 ?_
            refine va_put (D := D) (ci := 4) (v := .int (nI (n + 1))) (ty := .int) (C := RX4) (T := TX4) (N := 13) hx hb hts (fun _ h => List.mem_cons_of_mem _ (List.mem_append_right _ h)) tyX4 tyX4_ok nmX4 hown hK.1 hP hD hS 0 rfl rfl 6 (by decide) (hts (.fieldLink RX4 52 "RevisionStoresModel" "revisions" "I") (List.mem_of_getElem? (i := 1) rfl)) (fun _ h9 => h9) rfl (by decide +kernel) rfl rfl (Nat.le_of_ble_eq_true rfl) dX4_makes_199 (fun H locs hP hD hS => ?_)
            have hP : va_P D vwCl (wM ct g (n + 1) (va_up dc n d) (va_up pa n (some j68)) (va_up va n v) (va_up dl n b) (va_up ge n ((ge j68) + 1)) (va_up su n (mksu ge su o v b)) mk dp sq tc kp la) H := hP
            have hD : va_D A (wM ct g (n + 1) (va_up dc n d) (va_up pa n (some j68)) (va_up va n v) (va_up dl n b) (va_up ge n ((ge j68) + 1)) (va_up su n (mksu ge su o v b)) mk dp sq tc kp la) := hD
            refine lv_aload_n hx hb dX4_makes_202 rfl (lv_at hl 2 rfl) ?_
            refine va_get (D := D) (ci := 4) (v := .int (nI (n + 1))) (C := RX4) (T := TX4) (N := 13) hx hb hts (fun _ h => List.mem_cons_of_mem _ (List.mem_append_right _ h)) hown hK.1 hP 0 rfl rfl 6 (by decide) (hts (.fieldLink RX4 52 "RevisionStoresModel" "revisions" "I") (List.mem_of_getElem? (i := 1) rfl)) (fun _ h9 => h9) rfl dX4_makes_203 ?_
            refine lv_iconst (v := nI 1) hx hb dX4_makes_206 (by decide) ?_
            refine lv_isub hx hb dX4_makes_207 ?_
            refine r_top (y := eP (prd (n + 1))) (nI_prd2 _) ?_
            refine r_top (y := nI n) (rfl) ?_
            have e9 : (va_up pa n (some j68)) = (va_up pa n o) := by simp [c9, c68, c178]
            have hP := (congrArg (fun z9 => va_P D vwCl (wM ct g (n + 1) (va_up dc n d) z9 (va_up va n v) (va_up dl n b) (va_up ge n ((ge j68) + 1)) (va_up su n (mksu ge su o v b)) mk dp sq tc kp la) H) e9).mp hP
            have e9 : (va_up ge n ((ge j68) + 1)) = (va_up ge n (mkg ge o)) := by simp [mkg, c9, c68, c178]
            have hP := (congrArg (fun z9 => va_P D vwCl (wM ct g (n + 1) (va_up dc n d) (va_up pa n o) (va_up va n v) (va_up dl n b) z9 (va_up su n (mksu ge su o v b)) mk dp sq tc kp la) H) e9).mp hP
            have hP : va_P D vwCl (wM ct g (n + 1) (va_up dc n d) (va_up pa n o) (va_up va n v) (va_up dl n b) (va_up ge n (mkg ge o)) (va_up su n (mksu ge su o v b)) mk dp sq tc kp la) H := hP
            exact W.iret hx hb hr (fun t ht hW => ⟨⟨_, (), rfl, rfl, by show va_P D vwCl _ t.heap; rw [ht]; exact hP⟩, hS.F ht⟩) hS.2.2 dX4_makes_208
        · have hl := lv_re (f := fun z9 => [(5, .int (nI k)), (0, .ref (g 0)), (1, .int (nI d)), (2, .int z9), (3, .int v), (4, .int (bI b))]) hl (show eP o = eP none from congrArg eP c68)
          refine lv_iconst (v := nI 1) hx hb dX4_makes_71 (by decide) ?_
          refine lv_goto (tgt := 83) hx hb dX4_makes_72 (by decide) ?_
          refine lv_istore (lv' := [(5, .int (nI 1)), (0, .ref (g 0)), (1, .int (nI d)), (2, .int (eP none)), (3, .int v), (4, .int (bI b))]) hx hb dX4_makes_83 hl (by decide) rfl (fun ls hl => ?_)
          refine lv_iload_n hx hb dX4_makes_85 rfl (lv_at hl 3 rfl) ?_
          refine lv_iconst (v := -1) hx hb dX4_makes_86 (by decide) ?_
          refine lv_icmp_ne (x := -1) (y := -1) (tgt := 95) hx hb dX4_makes_87 (by decide) (fun h => absurd rfl h) (fun _ => ?_)
          refine lv_bipush (v := nI 31) hx hb dX4_makes_90 (by decide) ?_
          refine lv_goto (tgt := 104) hx hb dX4_makes_92 (by decide) ?_
          refine lv_istore (lv' := [(6, .int (nI 31)), (5, .int (nI 1)), (0, .ref (g 0)), (1, .int (nI d)), (2, .int (eP none)), (3, .int v), (4, .int (bI b))]) hx hb dX4_makes_104 hl (by decide) rfl (fun ls hl => ?_)
          refine lv_aload_n hx hb dX4_makes_106 rfl (lv_at hl 2 rfl) ?_
          refine va_get (D := D) (ci := 4) (v := .ref (g 1)) (C := RX4) (T := TX4) (N := 13) hx hb hts (fun _ h => List.mem_cons_of_mem _ (List.mem_append_right _ h)) hown hK.1 hP 0 rfl rfl 0 (by decide) (hts (.fieldLink RX4 7 "RevisionStoresModel" "documents" "[I") (List.mem_of_getElem? (i := 2) rfl)) (fun _ h9 => h9) rfl dX4_makes_107 ?_
          refine lv_aload_n hx hb dX4_makes_110 rfl (lv_at hl 2 rfl) ?_
          refine va_get (D := D) (ci := 4) (v := .int (nI n)) (C := RX4) (T := TX4) (N := 13) hx hb hts (fun _ h => List.mem_cons_of_mem _ (List.mem_append_right _ h)) hown hK.1 hP 0 rfl rfl 6 (by decide) (hts (.fieldLink RX4 52 "RevisionStoresModel" "revisions" "I") (List.mem_of_getElem? (i := 1) rfl)) (fun _ h9 => h9) rfl dX4_makes_111 ?_
          refine lv_iload_n hx hb dX4_makes_114 rfl (lv_at hl 3 rfl) ?_
          refine r_iast (j := n) (x := (nI d)) (f' := fun q9 => nI ((va_up dc n d) q9)) hx hb hK.1 hP hD hS 1 0 rfl rfl (by omega) (by first | decide | omega) (up_n _ _ _) dX4_makes_115 (fun H locs hP hD hS => ?_)
          have hP : va_P D vwCl (wM ct g n (va_up dc n d) pa va dl ge su mk dp sq tc kp la) H := hP
          have hD : va_D A (wM ct g n (va_up dc n d) pa va dl ge su mk dp sq tc kp la) := hD
          refine lv_aload_n hx hb dX4_makes_116 rfl (lv_at hl 2 rfl) ?_
          refine va_get (D := D) (ci := 4) (v := .ref (g 2)) (C := RX4) (T := TX4) (N := 13) hx hb hts (fun _ h => List.mem_cons_of_mem _ (List.mem_append_right _ h)) hown hK.1 hP 0 rfl rfl 1 (by decide) (hts (.fieldLink RX4 13 "RevisionStoresModel" "parents" "[I") (List.mem_of_getElem? (i := 3) rfl)) (fun _ h9 => h9) rfl dX4_makes_117 ?_
          refine lv_aload_n hx hb dX4_makes_120 rfl (lv_at hl 2 rfl) ?_
          refine va_get (D := D) (ci := 4) (v := .int (nI n)) (C := RX4) (T := TX4) (N := 13) hx hb hts (fun _ h => List.mem_cons_of_mem _ (List.mem_append_right _ h)) hown hK.1 hP 0 rfl rfl 6 (by decide) (hts (.fieldLink RX4 52 "RevisionStoresModel" "revisions" "I") (List.mem_of_getElem? (i := 1) rfl)) (fun _ h9 => h9) rfl dX4_makes_121 ?_
          refine lv_iload_n hx hb dX4_makes_124 rfl (lv_at hl 4 rfl) ?_
          refine r_iast (j := n) (x := (eP none)) (f' := fun q9 => eP ((va_up pa n none) q9)) hx hb hK.1 hP hD hS 2 0 rfl rfl (by omega) (by first | decide | omega) (up_p _ _ _) dX4_makes_125 (fun H locs hP hD hS => ?_)
          have hP : va_P D vwCl (wM ct g n (va_up dc n d) (va_up pa n none) va dl ge su mk dp sq tc kp la) H := hP
          have hD : va_D A (wM ct g n (va_up dc n d) (va_up pa n none) va dl ge su mk dp sq tc kp la) := hD
          refine lv_aload_n hx hb dX4_makes_126 rfl (lv_at hl 2 rfl) ?_
          refine va_get (D := D) (ci := 4) (v := .ref (g 3)) (C := RX4) (T := TX4) (N := 13) hx hb hts (fun _ h => List.mem_cons_of_mem _ (List.mem_append_right _ h)) hown hK.1 hP 0 rfl rfl 2 (by decide) (hts (.fieldLink RX4 16 "RevisionStoresModel" "values" "[I") (List.mem_of_getElem? (i := 4) rfl)) (fun _ h9 => h9) rfl dX4_makes_127 ?_
          refine lv_aload_n hx hb dX4_makes_130 rfl (lv_at hl 2 rfl) ?_
          refine va_get (D := D) (ci := 4) (v := .int (nI n)) (C := RX4) (T := TX4) (N := 13) hx hb hts (fun _ h => List.mem_cons_of_mem _ (List.mem_append_right _ h)) hown hK.1 hP 0 rfl rfl 6 (by decide) (hts (.fieldLink RX4 52 "RevisionStoresModel" "revisions" "I") (List.mem_of_getElem? (i := 1) rfl)) (fun _ h9 => h9) rfl dX4_makes_131 ?_
          refine lv_iload_n hx hb dX4_makes_134 rfl (lv_at hl 5 rfl) ?_
          refine r_iast (j := n) (x := v) (f' := va_up va n v) hx hb hK.1 hP hD hS 3 0 rfl rfl (by omega) (by first | decide | omega) (up_i _ _ _) dX4_makes_135 (fun H locs hP hD hS => ?_)
          have hP : va_P D vwCl (wM ct g n (va_up dc n d) (va_up pa n none) (va_up va n v) dl ge su mk dp sq tc kp la) H := hP
          have hD : va_D A (wM ct g n (va_up dc n d) (va_up pa n none) (va_up va n v) dl ge su mk dp sq tc kp la) := hD
          refine lv_aload_n hx hb dX4_makes_136 rfl (lv_at hl 2 rfl) ?_
          refine va_get (D := D) (ci := 4) (v := .ref (g 4)) (C := RX4) (T := TX4) (N := 13) hx hb hts (fun _ h => List.mem_cons_of_mem _ (List.mem_append_right _ h)) hown hK.1 hP 0 rfl rfl 3 (by decide) (hts (.fieldLink RX4 19 "RevisionStoresModel" "deletions" "[Z") (List.mem_of_getElem? (i := 5) rfl)) (fun _ h9 => h9) rfl dX4_makes_137 ?_
          refine lv_aload_n hx hb dX4_makes_140 rfl (lv_at hl 2 rfl) ?_
          refine va_get (D := D) (ci := 4) (v := .int (nI n)) (C := RX4) (T := TX4) (N := 13) hx hb hts (fun _ h => List.mem_cons_of_mem _ (List.mem_append_right _ h)) hown hK.1 hP 0 rfl rfl 6 (by decide) (hts (.fieldLink RX4 52 "RevisionStoresModel" "revisions" "I") (List.mem_of_getElem? (i := 1) rfl)) (fun _ h9 => h9) rfl dX4_makes_141 ?_
          refine lv_iload hx hb dX4_makes_144 (lv_at hl 6 rfl) ?_
          refine r_zast (j := n) (x := b) (f' := fun q9 => bI ((va_up dl n b) q9)) hx hb hK.1 hP hD hS 4 1 rfl rfl (by omega) (by first | decide | omega) (up_b _ _ _) dX4_makes_146 (fun H locs hP hD hS => ?_)
          have hP : va_P D vwCl (wM ct g n (va_up dc n d) (va_up pa n none) (va_up va n v) (va_up dl n b) ge su mk dp sq tc kp la) H := hP
          have hD : va_D A (wM ct g n (va_up dc n d) (va_up pa n none) (va_up va n v) (va_up dl n b) ge su mk dp sq tc kp la) := hD
          refine lv_aload_n hx hb dX4_makes_147 rfl (lv_at hl 2 rfl) ?_
          refine va_get (D := D) (ci := 4) (v := .ref (g 5)) (C := RX4) (T := TX4) (N := 13) hx hb hts (fun _ h => List.mem_cons_of_mem _ (List.mem_append_right _ h)) hown hK.1 hP 0 rfl rfl 4 (by decide) (hts (.fieldLink RX4 23 "RevisionStoresModel" "generations" "[I") (List.mem_of_getElem? (i := 6) rfl)) (fun _ h9 => h9) rfl dX4_makes_148 ?_
          refine lv_aload_n hx hb dX4_makes_151 rfl (lv_at hl 2 rfl) ?_
          refine va_get (D := D) (ci := 4) (v := .int (nI n)) (C := RX4) (T := TX4) (N := 13) hx hb hts (fun _ h => List.mem_cons_of_mem _ (List.mem_append_right _ h)) hown hK.1 hP 0 rfl rfl 6 (by decide) (hts (.fieldLink RX4 52 "RevisionStoresModel" "revisions" "I") (List.mem_of_getElem? (i := 1) rfl)) (fun _ h9 => h9) rfl dX4_makes_152 ?_
          refine lv_iload hx hb dX4_makes_155 (lv_at hl 1 rfl) ?_
          refine r_iast (j := n) (x := (nI 1)) (f' := fun q9 => nI ((va_up ge n 1) q9)) hx hb hK.1 hP hD hS 5 0 rfl rfl (by omega) (by first | decide | omega) (up_n _ _ _) dX4_makes_157 (fun H locs hP hD hS => ?_)
          have hP : va_P D vwCl (wM ct g n (va_up dc n d) (va_up pa n none) (va_up va n v) (va_up dl n b) (va_up ge n 1) su mk dp sq tc kp la) H := hP
          have hD : va_D A (wM ct g n (va_up dc n d) (va_up pa n none) (va_up va n v) (va_up dl n b) (va_up ge n 1) su mk dp sq tc kp la) := hD
          refine lv_aload_n hx hb dX4_makes_158 rfl (lv_at hl 2 rfl) ?_
          refine va_get (D := D) (ci := 4) (v := .ref (g 6)) (C := RX4) (T := TX4) (N := 13) hx hb hts (fun _ h => List.mem_cons_of_mem _ (List.mem_append_right _ h)) hown hK.1 hP 0 rfl rfl 5 (by decide) (hts (.fieldLink RX4 26 "RevisionStoresModel" "sums" "[I") (List.mem_of_getElem? (i := 7) rfl)) (fun _ h9 => h9) rfl dX4_makes_159 ?_
          refine lv_aload_n hx hb dX4_makes_162 rfl (lv_at hl 2 rfl) ?_
          refine va_get (D := D) (ci := 4) (v := .int (nI n)) (C := RX4) (T := TX4) (N := 13) hx hb hts (fun _ h => List.mem_cons_of_mem _ (List.mem_append_right _ h)) hown hK.1 hP 0 rfl rfl 6 (by decide) (hts (.fieldLink RX4 52 "RevisionStoresModel" "revisions" "I") (List.mem_of_getElem? (i := 1) rfl)) (fun _ h9 => h9) rfl dX4_makes_163 ?_
          refine lv_iload hx hb dX4_makes_166 (lv_at hl 0 rfl) ?_
          refine lv_bipush (v := nI 7) hx hb dX4_makes_168 (by decide) ?_
          refine lv_iload_n hx hb dX4_makes_170 rfl (lv_at hl 5 rfl) ?_
          refine lv_imul hx hb dX4_makes_171 ?_
          refine lv_iadd hx hb dX4_makes_172 ?_
          refine lv_iload hx hb dX4_makes_173 (lv_at hl 1 rfl) ?_
          refine lv_iadd hx hb dX4_makes_175 ?_
          refine lv_iload hx hb dX4_makes_176 (lv_at hl 6 rfl) ?_
          refine r_if_eqB (x := b) (tgt := 185) hx hb dX4_makes_178 (by decide) (fun c178 => ?_) (fun c178 => ?_)
          · refine lv_iconst (v := nI 0) hx hb dX4_makes_185 (by decide) ?_
            refine lv_iadd hx hb dX4_makes_186 ?_
            refine lv_sipush (v := nI 997) hx hb dX4_makes_187 (by decide) ?_
            refine lv_irem hx hb dX4_makes_190 (by decide) ?_
            refine r_top (y := mksu ge su o v b) (by simp [mksu, mkh, mkg, mkr, c9, c68, c178]) ?_
            refine r_iast (j := n) (x := (mksu ge su o v b)) (f' := va_up su n (mksu ge su o v b)) hx hb hK.1 hP hD hS 6 0 rfl rfl (by omega) (by first | decide | omega) (up_i _ _ _) dX4_makes_191 (fun H locs hP hD hS => ?_)
            have hP : va_P D vwCl (wM ct g n (va_up dc n d) (va_up pa n none) (va_up va n v) (va_up dl n b) (va_up ge n 1) (va_up su n (mksu ge su o v b)) mk dp sq tc kp la) H := hP
            have hD : va_D A (wM ct g n (va_up dc n d) (va_up pa n none) (va_up va n v) (va_up dl n b) (va_up ge n 1) (va_up su n (mksu ge su o v b)) mk dp sq tc kp la) := hD
            refine lv_aload_n hx hb dX4_makes_192 rfl (lv_at hl 2 rfl) ?_
            refine lv_dup hx hb dX4_makes_193 rfl ?_
            refine va_get (D := D) (ci := 4) (v := .int (nI n)) (C := RX4) (T := TX4) (N := 13) hx hb hts (fun _ h => List.mem_cons_of_mem _ (List.mem_append_right _ h)) hown hK.1 hP 0 rfl rfl 6 (by decide) (hts (.fieldLink RX4 52 "RevisionStoresModel" "revisions" "I") (List.mem_of_getElem? (i := 1) rfl)) (fun _ h9 => h9) rfl dX4_makes_194 ?_
            refine lv_iconst (v := nI 1) hx hb dX4_makes_197 (by decide) ?_
            refine r_iaddN hx hb dX4_makes_198 ?_
            refine va_put (D := D) (ci := 4) (v := .int (nI (n + 1))) (ty := .int) (C := RX4) (T := TX4) (N := 13) hx hb hts (fun _ h => List.mem_cons_of_mem _ (List.mem_append_right _ h)) tyX4 tyX4_ok nmX4 hown hK.1 hP hD hS 0 rfl rfl 6 (by decide) (hts (.fieldLink RX4 52 "RevisionStoresModel" "revisions" "I") (List.mem_of_getElem? (i := 1) rfl)) (fun _ h9 => h9) rfl (by decide +kernel) rfl rfl (Nat.le_of_ble_eq_true rfl) dX4_makes_199 (fun H locs hP hD hS => ?_)
            have hP : va_P D vwCl (wM ct g (n + 1) (va_up dc n d) (va_up pa n none) (va_up va n v) (va_up dl n b) (va_up ge n 1) (va_up su n (mksu ge su o v b)) mk dp sq tc kp la) H := hP
            have hD : va_D A (wM ct g (n + 1) (va_up dc n d) (va_up pa n none) (va_up va n v) (va_up dl n b) (va_up ge n 1) (va_up su n (mksu ge su o v b)) mk dp sq tc kp la) := hD
            refine lv_aload_n hx hb dX4_makes_202 rfl (lv_at hl 2 rfl) ?_
            refine va_get (D := D) (ci := 4) (v := .int (nI (n + 1))) (C := RX4) (T := TX4) (N := 13) hx hb hts (fun _ h => List.mem_cons_of_mem _ (List.mem_append_right _ h)) hown hK.1 hP 0 rfl rfl 6 (by decide) (hts (.fieldLink RX4 52 "RevisionStoresModel" "revisions" "I") (List.mem_of_getElem? (i := 1) rfl)) (fun _ h9 => h9) rfl dX4_makes_203 ?_
            refine lv_iconst (v := nI 1) hx hb dX4_makes_206 (by decide) ?_
            refine lv_isub hx hb dX4_makes_207 ?_
            refine r_top (y := eP (prd (n + 1))) (nI_prd2 _) ?_
            refine r_top (y := nI n) (rfl) ?_
            have e9 : (va_up pa n none) = (va_up pa n o) := by simp [c9, c68, c178]
            have hP := (congrArg (fun z9 => va_P D vwCl (wM ct g (n + 1) (va_up dc n d) z9 (va_up va n v) (va_up dl n b) (va_up ge n 1) (va_up su n (mksu ge su o v b)) mk dp sq tc kp la) H) e9).mp hP
            have e9 : (va_up ge n 1) = (va_up ge n (mkg ge o)) := by simp [mkg, c9, c68, c178]
            have hP := (congrArg (fun z9 => va_P D vwCl (wM ct g (n + 1) (va_up dc n d) (va_up pa n o) (va_up va n v) (va_up dl n b) z9 (va_up su n (mksu ge su o v b)) mk dp sq tc kp la) H) e9).mp hP
            have hP : va_P D vwCl (wM ct g (n + 1) (va_up dc n d) (va_up pa n o) (va_up va n v) (va_up dl n b) (va_up ge n (mkg ge o)) (va_up su n (mksu ge su o v b)) mk dp sq tc kp la) H := hP
            exact W.iret hx hb hr (fun t ht hW => ⟨⟨_, (), rfl, rfl, by show va_P D vwCl _ t.heap; rw [ht]; exact hP⟩, hS.F ht⟩) hS.2.2 dX4_makes_208
          · refine lv_iconst (v := nI 3) hx hb dX4_makes_181 (by decide) ?_
            refine lv_goto (tgt := 186) hx hb dX4_makes_182 (by decide) ?_
            refine lv_iadd hx hb dX4_makes_186 ?_
            refine lv_sipush (v := nI 997) hx hb dX4_makes_187 (by decide) ?_
            refine lv_irem hx hb dX4_makes_190 (by decide) ?_
            refine r_top (y := mksu ge su o v b) (by simp [mksu, mkh, mkg, mkr, c9, c68, c178]) ?_
            refine r_iast (j := n) (x := (mksu ge su o v b)) (f' := va_up su n (mksu ge su o v b)) hx hb hK.1 hP hD hS 6 0 rfl rfl (by omega) (by first | decide | omega) (up_i _ _ _) dX4_makes_191 (fun H locs hP hD hS => ?_)
            have hP : va_P D vwCl (wM ct g n (va_up dc n d) (va_up pa n none) (va_up va n v) (va_up dl n b) (va_up ge n 1) (va_up su n (mksu ge su o v b)) mk dp sq tc kp la) H := hP
            have hD : va_D A (wM ct g n (va_up dc n d) (va_up pa n none) (va_up va n v) (va_up dl n b) (va_up ge n 1) (va_up su n (mksu ge su o v b)) mk dp sq tc kp la) := hD
            refine lv_aload_n hx hb dX4_makes_192 rfl (lv_at hl 2 rfl) ?_
            refine lv_dup hx hb dX4_makes_193 rfl ?_
            refine va_get (D := D) (ci := 4) (v := .int (nI n)) (C := RX4) (T := TX4) (N := 13) hx hb hts (fun _ h => List.mem_cons_of_mem _ (List.mem_append_right _ h)) hown hK.1 hP 0 rfl rfl 6 (by decide) (hts (.fieldLink RX4 52 "RevisionStoresModel" "revisions" "I") (List.mem_of_getElem? (i := 1) rfl)) (fun _ h9 => h9) rfl dX4_makes_194 ?_
            refine lv_iconst (v := nI 1) hx hb dX4_makes_197 (by decide) ?_
            refine r_iaddN hx hb dX4_makes_198 ?_
            refine va_put (D := D) (ci := 4) (v := .int (nI (n + 1))) (ty := .int) (C := RX4) (T := TX4) (N := 13) hx hb hts (fun _ h => List.mem_cons_of_mem _ (List.mem_append_right _ h)) tyX4 tyX4_ok nmX4 hown hK.1 hP hD hS 0 rfl rfl 6 (by decide) (hts (.fieldLink RX4 52 "RevisionStoresModel" "revisions" "I") (List.mem_of_getElem? (i := 1) rfl)) (fun _ h9 => h9) rfl (by decide +kernel) rfl rfl (Nat.le_of_ble_eq_true rfl) dX4_makes_199 (fun H locs hP hD hS => ?_)
            have hP : va_P D vwCl (wM ct g (n + 1) (va_up dc n d) (va_up pa n none) (va_up va n v) (va_up dl n b) (va_up ge n 1) (va_up su n (mksu ge su o v b)) mk dp sq tc kp la) H := hP
            have hD : va_D A (wM ct g (n + 1) (va_up dc n d) (va_up pa n none) (va_up va n v) (va_up dl n b) (va_up ge n 1) (va_up su n (mksu ge su o v b)) mk dp sq tc kp la) := hD
            refine lv_aload_n hx hb dX4_makes_202 rfl (lv_at hl 2 rfl) ?_
            refine va_get (D := D) (ci := 4) (v := .int (nI (n + 1))) (C := RX4) (T := TX4) (N := 13) hx hb hts (fun _ h => List.mem_cons_of_mem _ (List.mem_append_right _ h)) hown hK.1 hP 0 rfl rfl 6 (by decide) (hts (.fieldLink RX4 52 "RevisionStoresModel" "revisions" "I") (List.mem_of_getElem? (i := 1) rfl)) (fun _ h9 => h9) rfl dX4_makes_203 ?_
            refine lv_iconst (v := nI 1) hx hb dX4_makes_206 (by decide) ?_
            refine lv_isub hx hb dX4_makes_207 ?_
            refine r_top (y := eP (prd (n + 1))) (nI_prd2 _) ?_
            refine r_top (y := nI n) (rfl) ?_
            have e9 : (va_up pa n none) = (va_up pa n o) := by simp [c9, c68, c178]
            have hP := (congrArg (fun z9 => va_P D vwCl (wM ct g (n + 1) (va_up dc n d) z9 (va_up va n v) (va_up dl n b) (va_up ge n 1) (va_up su n (mksu ge su o v b)) mk dp sq tc kp la) H) e9).mp hP
            have e9 : (va_up ge n 1) = (va_up ge n (mkg ge o)) := by simp [mkg, c9, c68, c178]
            have hP := (congrArg (fun z9 => va_P D vwCl (wM ct g (n + 1) (va_up dc n d) (va_up pa n o) (va_up va n v) (va_up dl n b) z9 (va_up su n (mksu ge su o v b)) mk dp sq tc kp la) H) e9).mp hP
            have hP : va_P D vwCl (wM ct g (n + 1) (va_up dc n d) (va_up pa n o) (va_up va n v) (va_up dl n b) (va_up ge n (mkg ge o)) (va_up su n (mksu ge su o v b)) mk dp sq tc kp la) H := hP
            exact W.iret hx hb hr (fun t ht hW => ⟨⟨_, (), rfl, rfl, by show va_P D vwCl _ t.heap; rw [ht]; exact hP⟩, hS.F ht⟩) hS.2.2 dX4_makes_208
      · refine lv_aload_n hx hb dX4_makes_12 rfl (lv_at hl 1 rfl) ?_
        refine va_get (D := D) (ci := 4) (v := .ref (g 1)) (C := RX4) (T := TX4) (N := 13) hx hb hts (fun _ h => List.mem_cons_of_mem _ (List.mem_append_right _ h)) hown hK.1 hP 0 rfl rfl 0 (by decide) (hts (.fieldLink RX4 7 "RevisionStoresModel" "documents" "[I") (List.mem_of_getElem? (i := 2) rfl)) (fun _ h9 => h9) rfl dX4_makes_13 ?_
        refine lv_iload hx hb dX4_makes_16 (lv_at hl 0 rfl) ?_
        refine r_iald (j := k) (v := nI (dc k)) hx hb hK.1 hP 1 0 rfl rfl (by omega) (by first | decide | omega) rfl dX4_makes_18 ?_
        have f18 := hTd k
        refine lv_iload_n hx hb dX4_makes_19 rfl (lv_at hl 2 rfl) ?_
        refine r_icmp_neN hx hb (x := dc k) (y := d) (by first | omega | decide) (by first | omega | decide) (tgt := 60) dX4_makes_20 (by decide) (fun c20 => ?_) (fun c20 => ?_)
        · refine lv_iinc (v := nI (k + 1)) (lv' := [(5, .int (nI (k + 1))), (0, .ref (g 0)), (1, .int (nI d)), (2, .int (eP o)), (3, .int v), (4, .int (bI b))]) hx hb dX4_makes_60 hl (k := 0) rfl (nI_1 _) (by decide) rfl (fun ls hl => ?_)
          refine lv_goto (tgt := 3) hx hb dX4_makes_63 (by decide) ?_
          exact ih3 (k + 1) (by first | assumption | omega) (ffd_no hno (by simp [fnd, c9, c20])) (by omega) H locs ls hP hD hS (lv_sub hl [0, 1, 2, 3, 4, 5] rfl)
        · refine lv_aload_n hx hb dX4_makes_23 rfl (lv_at hl 1 rfl) ?_
          refine va_get (D := D) (ci := 4) (v := .ref (g 2)) (C := RX4) (T := TX4) (N := 13) hx hb hts (fun _ h => List.mem_cons_of_mem _ (List.mem_append_right _ h)) hown hK.1 hP 0 rfl rfl 1 (by decide) (hts (.fieldLink RX4 13 "RevisionStoresModel" "parents" "[I") (List.mem_of_getElem? (i := 3) rfl)) (fun _ h9 => h9) rfl dX4_makes_24 ?_
          refine lv_iload hx hb dX4_makes_27 (lv_at hl 0 rfl) ?_
          refine r_iald (j := k) (v := eP (pa k)) hx hb hK.1 hP 2 0 rfl rfl (by omega) (by first | decide | omega) rfl dX4_makes_29 ?_
          refine lv_iload_n hx hb dX4_makes_30 rfl (lv_at hl 3 rfl) ?_
          refine lv_icmp_ne (x := eP (pa k)) (y := eP o) (tgt := 60) hx hb dX4_makes_31 (by decide) (fun c31 => ?_) (fun c31 => ?_)
          · refine lv_iinc (v := nI (k + 1)) (lv' := [(5, .int (nI (k + 1))), (0, .ref (g 0)), (1, .int (nI d)), (2, .int (eP o)), (3, .int v), (4, .int (bI b))]) hx hb dX4_makes_60 hl (k := 0) rfl (nI_1 _) (by decide) rfl (fun ls hl => ?_)
            refine lv_goto (tgt := 3) hx hb dX4_makes_63 (by decide) ?_
            exact ih3 (k + 1) (by first | assumption | omega) (ffd_no hno (by simp [fnd, c9, c20, c31])) (by omega) H locs ls hP hD hS (lv_sub hl [0, 1, 2, 3, 4, 5] rfl)
          · refine lv_aload_n hx hb dX4_makes_34 rfl (lv_at hl 1 rfl) ?_
            refine va_get (D := D) (ci := 4) (v := .ref (g 3)) (C := RX4) (T := TX4) (N := 13) hx hb hts (fun _ h => List.mem_cons_of_mem _ (List.mem_append_right _ h)) hown hK.1 hP 0 rfl rfl 2 (by decide) (hts (.fieldLink RX4 16 "RevisionStoresModel" "values" "[I") (List.mem_of_getElem? (i := 4) rfl)) (fun _ h9 => h9) rfl dX4_makes_35 ?_
            refine lv_iload hx hb dX4_makes_38 (lv_at hl 0 rfl) ?_
            refine r_iald (j := k) (v := va k) hx hb hK.1 hP 3 0 rfl rfl (by omega) (by first | decide | omega) rfl dX4_makes_40 ?_
            refine lv_iload_n hx hb dX4_makes_41 rfl (lv_at hl 4 rfl) ?_
            refine lv_icmp_ne (x := va k) (y := v) (tgt := 60) hx hb dX4_makes_42 (by decide) (fun c42 => ?_) (fun c42 => ?_)
            · refine lv_iinc (v := nI (k + 1)) (lv' := [(5, .int (nI (k + 1))), (0, .ref (g 0)), (1, .int (nI d)), (2, .int (eP o)), (3, .int v), (4, .int (bI b))]) hx hb dX4_makes_60 hl (k := 0) rfl (nI_1 _) (by decide) rfl (fun ls hl => ?_)
              refine lv_goto (tgt := 3) hx hb dX4_makes_63 (by decide) ?_
              exact ih3 (k + 1) (by first | assumption | omega) (ffd_no hno (by simp [fnd, c9, c20, c31, c42])) (by omega) H locs ls hP hD hS (lv_sub hl [0, 1, 2, 3, 4, 5] rfl)
            · refine lv_aload_n hx hb dX4_makes_45 rfl (lv_at hl 1 rfl) ?_
              refine va_get (D := D) (ci := 4) (v := .ref (g 4)) (C := RX4) (T := TX4) (N := 13) hx hb hts (fun _ h => List.mem_cons_of_mem _ (List.mem_append_right _ h)) hown hK.1 hP 0 rfl rfl 3 (by decide) (hts (.fieldLink RX4 19 "RevisionStoresModel" "deletions" "[Z") (List.mem_of_getElem? (i := 5) rfl)) (fun _ h9 => h9) rfl dX4_makes_46 ?_
              refine lv_iload hx hb dX4_makes_49 (lv_at hl 0 rfl) ?_
              refine r_zald (j := k) (v := bI (dl k)) hx hb hK.1 hP 4 1 rfl rfl (by omega) (by first | decide | omega) rfl dX4_makes_51 ?_
              refine lv_iload hx hb dX4_makes_52 (lv_at hl 5 rfl) ?_
              refine r_icmp_neB (x := dl k) (y := b) (tgt := 60) hx hb dX4_makes_54 (by decide) (fun c54 => ?_) (fun c54 => ?_)
              · refine lv_iinc (v := nI (k + 1)) (lv' := [(5, .int (nI (k + 1))), (0, .ref (g 0)), (1, .int (nI d)), (2, .int (eP o)), (3, .int v), (4, .int (bI b))]) hx hb dX4_makes_60 hl (k := 0) rfl (nI_1 _) (by decide) rfl (fun ls hl => ?_)
                refine lv_goto (tgt := 3) hx hb dX4_makes_63 (by decide) ?_
                exact ih3 (k + 1) (by first | assumption | omega) (ffd_no hno (by simp [fnd, c9, c20, c31, c42, c54])) (by omega) H locs ls hP hD hS (lv_sub hl [0, 1, 2, 3, 4, 5] rfl)
              · exact absurd (ffd_hit (n := n) hno (by simp [fnd, c9, c20, c31, c42, c54]) (by omega)) (by rw [hf]; exact fun h => by cases h)
  exact key3 ((n - 0) + 1) 0 (by first | assumption | omega) (rfl) (Nat.lt_succ_self _) _ _ ls hP hD hS (lv_sub hl [0, 1, 2, 3, 4, 5] rfl)
set_option maxHeartbeats 8000000 in
set_option maxRecDepth 100000 in
theorem cX4_adds_found (l : Launch) (D : va_G) (ct : Nat → ClassId) (g : Nat → Nat) (n : Nat) (dc : Nat → Nat) (pa : Nat → Option Nat) (va : Nat → Int32) (dl : Nat → Bool) (ge : Nat → Nat) (su : Nat → Int32) (mk : Nat → Bool) (dp : Nat → Int32) (sq : Nat → Int32) (tc : Nat → Int32) (kp : Nat → Int32) (la : Int32) (i : Nat) (d : Nat) (o : Option Nat) (v : Int32) (b : Bool) (j : Nat) (hn : n ≤ 150) (hTd : ∀ k, dc k < 4) (hTg : ∀ k, ge k ≤ 150) (hTp : ∀ k j, k < n → pa k = some j → j < k) (hi : i < 3) (hd4 : d < 4) (ho : ∀ j, o = some j → j < n) (hf : ffd (fnd dc pa va dl d o v b) n = some j) (hj : j < n) (hm : mk ((150 * i) + j) = false) (sz : Nat) : Met l yX4_adds wsX4_adds ({ frames := 5, cells := 0, slots := 0, locals := 116 } : Room) (wrPc D ct [.ref (g 0), .int (nI i), .int (nI d), .int (eP o), .int v, .int (bI b)] (wM ct g n dc pa va dl ge su mk dp sq tc kp la) sz) (wqI D (nI j) (wM ct g n dc pa va dl ge su ((smS pa ge dp i n (va_up mk ((150 * i) + j) true) n).2) dp (va_up sq i (sq i + nI 1)) (va_up tc ((4 * i) + d) (sq i + nI 1)) kp la) (va_A (wM ct g n dc pa va dl ge su mk dp sq tc kp la) sz)) 0 0 (va_A (wM ct g n dc pa va dl ge su mk dp sq tc kp la) sz) := by
  refine Met.ofW (cc := cX4_adds) (maxL := 7) (ret := (some .int)) (by decide) rfl ?_
  intro p e s m args below meth c s₁ B hml hv
  obtain ⟨rfl, hsz, hP, hK, hD0⟩ := hv
  have hx := B.exec
  have hb := B.bytes
  have hr := B.returns
  have hts := atoms_spec (ws := wsX4_adds) B.pre
  have hown : s.vm.findClass RX4 = some m.cls := findClass_of_methodNamed B.named
  have hlocks := B.notSynchronized
  subst hsz
  have hD := hD0.self (sz := s.heap.size)
  generalize hAe : va_A (wM ct g n dc pa va dl ge su mk dp sq tc kp la) s.heap.size = A at hD ⊢
  have hA : ∀ q : Nat, s.heap.size ≤ q → A q := fun q h => by rw [← hAe]; exact Or.inr h
  have hS : va_S A s.heap s.heap [] := va_S.rf
  have hP : va_P D vwCl (wM ct g n dc pa va dl ge su mk dp sq tc kp la) s.heap := hP
  clear hAe hD0
  have hl := lv_entry ([.ref (g 0), .int (nI i), .int (nI d), .int (eP o), .int v, .int (bI b)]) (n := 7) (Nat.le_of_ble_eq_true rfl)
  rw [lg_entry_eq]
  generalize (lg_sl ([.ref (g 0), .int (nI i), .int (nI d), .int (eP o), .int v, .int (bI b)]) ++ List.replicate (7 - (lg_sl ([.ref (g 0), .int (nI i), .int (nI d), .int (eP o), .int v, .int (bI b)])).length) Slot.unset).toArray = ls at hl ⊢
  have hl : lv_has ls 7 [(0, .ref (g 0)), (1, .int (nI i)), (2, .int (nI d)), (3, .int (eP o)), (4, .int v), (5, .int (bI b))] := hl
  have hH0 : s.heap.size ≤ s.heap.size := Nat.le_refl _
  refine lv_aload_n hx hb dX4_adds_0 rfl (lv_at hl 0 rfl) ?_
  refine lv_iload_n hx hb dX4_adds_1 rfl (lv_at hl 2 rfl) ?_
  refine lv_iload_n hx hb dX4_adds_2 rfl (lv_at hl 3 rfl) ?_
  refine lv_iload hx hb dX4_adds_3 (lv_at hl 4 rfl) ?_
  refine lv_iload hx hb dX4_adds_5 (lv_at hl 5 rfl) ?_
  refine r_cV (As := [.int (nI d), .int (eP o), .int v, .int (bI b)]) (rest := []) ⟨hx, hb, hml, hown, hts⟩ (cX4_makes_found l D ct g n dc pa va dl ge su mk dp sq tc kp la d o v b j (by first | assumption | omega) (by first | assumption | omega) (by first | assumption | omega) (by first | assumption | omega) (by first | assumption | omega)) (cwV 4 hts gX4_adds_X4_makes rfl rfl rfl (by decide +kernel) ⟨Nat.le_of_ble_eq_true rfl, Nat.le_of_ble_eq_true rfl⟩) hK (hP.sub (ws' := wM ct g n dc pa va dl ge su mk dp sq tc kp la) [0, 1, 2, 3, 4, 5, 6, 7, 8, 9, 10, 11] rfl) 0 4 rfl rfl rfl hl.1 rfl (Nat.le_of_ble_eq_true rfl) dX4_adds_7 ⟨Nat.le_of_ble_eq_true rfl, Nat.le_of_ble_eq_true rfl⟩ ?_
  refine lv_istore (lv' := [(6, .int (nI j)), (0, .ref (g 0)), (1, .int (nI i)), (2, .int (nI d)), (3, .int (eP o)), (4, .int v), (5, .int (bI b))]) hx hb dX4_adds_10 hl (by decide) rfl (fun ls hl => ?_)
  refine lv_aload_n hx hb dX4_adds_12 rfl (lv_at hl 1 rfl) ?_
  refine va_get (D := D) (ci := 4) (v := .ref (g 7)) (C := RX4) (T := TX4) (N := 13) hx hb hts (fun _ h => List.mem_cons_of_mem _ (List.mem_append_right _ h)) hown hK.1 hP 0 rfl rfl 7 (by decide) (hts (.fieldLink RX4 29 "RevisionStoresModel" "marks" "[Z") (List.mem_of_getElem? (i := 1) rfl)) (fun _ h9 => h9) rfl dX4_adds_13 ?_
  refine lv_sipush (v := nI 150) hx hb dX4_adds_16 (by decide) ?_
  refine lv_iload_n hx hb dX4_adds_19 rfl (lv_at hl 2 rfl) ?_
  refine r_imulN hx hb dX4_adds_20 ?_
  refine lv_iload hx hb dX4_adds_21 (lv_at hl 0 rfl) ?_
  refine r_iaddN hx hb dX4_adds_23 ?_
  refine r_zald (j := (150 * i) + j) (v := bI (mk ((150 * i) + j))) hx hb hK.1 hP 7 1 rfl rfl (by omega) (by first | decide | omega) rfl dX4_adds_24 ?_
  refine r_top (y := bI false) (congrArg bI (show (mk ((150 * i) + j)) = false from hm)) ?_
  refine r_if_neB (x := false) (tgt := 54) hx hb dX4_adds_25 (by decide) (fun c25 => by cases c25) (fun c25 => ?_)
  refine lv_aload_n hx hb dX4_adds_28 rfl (lv_at hl 1 rfl) ?_
  refine va_get (D := D) (ci := 4) (v := .ref (g 7)) (C := RX4) (T := TX4) (N := 13) hx hb hts (fun _ h => List.mem_cons_of_mem _ (List.mem_append_right _ h)) hown hK.1 hP 0 rfl rfl 7 (by decide) (hts (.fieldLink RX4 29 "RevisionStoresModel" "marks" "[Z") (List.mem_of_getElem? (i := 1) rfl)) (fun _ h9 => h9) rfl dX4_adds_29 ?_
  refine lv_sipush (v := nI 150) hx hb dX4_adds_32 (by decide) ?_
  refine lv_iload_n hx hb dX4_adds_35 rfl (lv_at hl 2 rfl) ?_
  refine r_imulN hx hb dX4_adds_36 ?_
  refine lv_iload hx hb dX4_adds_37 (lv_at hl 0 rfl) ?_
  refine r_iaddN hx hb dX4_adds_39 ?_
  refine lv_iconst (v := nI 1) hx hb dX4_adds_40 (by decide) ?_
  refine r_zast (j := (150 * i) + j) (x := true) (f' := fun q9 => bI ((va_up mk ((150 * i) + j) true) q9)) hx hb hK.1 hP hD hS 7 1 rfl rfl (by omega) (by first | decide | omega) (up_b _ _ _) dX4_adds_41 (fun H locs hP hD hS => ?_)
  have hP : va_P D vwCl (wM ct g n dc pa va dl ge su (va_up mk ((150 * i) + j) true) dp sq tc kp la) H := hP
  have hD : va_D A (wM ct g n dc pa va dl ge su (va_up mk ((150 * i) + j) true) dp sq tc kp la) := hD
  refine lv_aload_n hx hb dX4_adds_42 rfl (lv_at hl 1 rfl) ?_
  refine lv_iload_n hx hb dX4_adds_43 rfl (lv_at hl 2 rfl) ?_
  refine lv_iload_n hx hb dX4_adds_44 rfl (lv_at hl 3 rfl) ?_
  refine r_wVv (As := [.int (nI i), .int (nI d)]) (rest := []) ⟨hx, hb, hml, hown, hts⟩ (cX4_touches_ok l D ct g n dc pa va dl ge su (va_up mk ((150 * i) + j) true) dp sq tc kp la i d (by first | assumption | omega) (by first | assumption | omega) H.size) (cwV 2 hts gX4_adds_X4_touches rfl rfl rfl (by decide +kernel) ⟨Nat.le_of_ble_eq_true rfl, Nat.le_of_ble_eq_true rfl⟩) hK hP hD hS hA [0, 1, 2, 3, 4, 5, 6, 7, 8, 9, 10, 11] rfl rfl rfl 0 4 rfl rfl rfl hl.1 rfl (Nat.le_of_ble_eq_true rfl) dX4_adds_45 ⟨Nat.le_of_ble_eq_true rfl, Nat.le_of_ble_eq_true rfl⟩ (fun H locs hP hD hS => ?_)
  have hP : va_P D vwCl (wM ct g n dc pa va dl ge su (va_up mk ((150 * i) + j) true) dp (va_up sq i (sq i + nI 1)) (va_up tc ((4 * i) + d) (sq i + nI 1)) kp la) H := hP
  have hD : va_D A (wM ct g n dc pa va dl ge su (va_up mk ((150 * i) + j) true) dp (va_up sq i (sq i + nI 1)) (va_up tc ((4 * i) + d) (sq i + nI 1)) kp la) := hD
  refine lv_aload_n hx hb dX4_adds_48 rfl (lv_at hl 1 rfl) ?_
  refine lv_iload_n hx hb dX4_adds_49 rfl (lv_at hl 2 rfl) ?_
  refine r_wVi (As := [.int (nI i)]) (rest := []) ⟨hx, hb, hml, hown, hts⟩ (cX4_stems_ok l D ct g n dc pa va dl ge su (va_up mk ((150 * i) + j) true) dp (va_up sq i (sq i + nI 1)) (va_up tc ((4 * i) + d) (sq i + nI 1)) kp la i (by first | assumption | omega) (by first | assumption | omega) (by first | assumption | omega) (by first | assumption | omega) H.size) (cwV 1 hts gX4_adds_X4_stems rfl rfl rfl (by decide +kernel) ⟨Nat.le_of_ble_eq_true rfl, Nat.le_of_ble_eq_true rfl⟩) hK hP hD hS hA [0, 1, 2, 3, 4, 5, 6, 7, 8, 9, 10, 11] rfl rfl rfl 0 4 rfl rfl rfl hl.1 rfl (Nat.le_of_ble_eq_true rfl) dX4_adds_50 ⟨Nat.le_of_ble_eq_true rfl, Nat.le_of_ble_eq_true rfl⟩ (fun H locs hP hD hS => ?_)
  have hP : va_P D vwCl (wM ct g n dc pa va dl ge su ((smS pa ge dp i n (va_up mk ((150 * i) + j) true) n).2) dp (va_up sq i (sq i + nI 1)) (va_up tc ((4 * i) + d) (sq i + nI 1)) kp la) H := hP
  have hD : va_D A (wM ct g n dc pa va dl ge su ((smS pa ge dp i n (va_up mk ((150 * i) + j) true) n).2) dp (va_up sq i (sq i + nI 1)) (va_up tc ((4 * i) + d) (sq i + nI 1)) kp la) := hD
  refine lv_pop hx hb dX4_adds_53 rfl ?_
  refine lv_iload hx hb dX4_adds_54 (lv_at hl 0 rfl) ?_
  have hP : va_P D vwCl (wM ct g n dc pa va dl ge su ((smS pa ge dp i n (va_up mk ((150 * i) + j) true) n).2) dp (va_up sq i (sq i + nI 1)) (va_up tc ((4 * i) + d) (sq i + nI 1)) kp la) H := hP
  exact W.iret hx hb hr (fun t ht hW => ⟨⟨_, (), rfl, rfl, by show va_P D vwCl _ t.heap; rw [ht]; exact hP⟩, hS.F ht⟩) hS.2.2 dX4_adds_56
set_option maxHeartbeats 8000000 in
set_option maxRecDepth 100000 in
theorem cX4_adds_new (l : Launch) (D : va_G) (ct : Nat → ClassId) (g : Nat → Nat) (n : Nat) (dc : Nat → Nat) (pa : Nat → Option Nat) (va : Nat → Int32) (dl : Nat → Bool) (ge : Nat → Nat) (su : Nat → Int32) (mk : Nat → Bool) (dp : Nat → Int32) (sq : Nat → Int32) (tc : Nat → Int32) (kp : Nat → Int32) (la : Int32) (i : Nat) (d : Nat) (o : Option Nat) (v : Int32) (b : Bool) (hn : n < 150) (hTd : ∀ k, dc k < 4) (hTg : ∀ k, ge k ≤ 150) (hTp : ∀ k j, k < n → pa k = some j → j < k) (hi : i < 3) (hd4 : d < 4) (ho : ∀ j, o = some j → j < n) (hg1 : mkg ge o ≤ 150) (hf : ffd (fnd dc pa va dl d o v b) n = none) (hm : mk ((150 * i) + n) = false) (sz : Nat) : Met l yX4_adds wsX4_adds ({ frames := 5, cells := 0, slots := 0, locals := 116 } : Room) (wrPc D ct [.ref (g 0), .int (nI i), .int (nI d), .int (eP o), .int v, .int (bI b)] (wM ct g n dc pa va dl ge su mk dp sq tc kp la) sz) (wqI D (nI n) (wM ct g (n + 1) (va_up dc n d) (va_up pa n o) (va_up va n v) (va_up dl n b) (va_up ge n (mkg ge o)) (va_up su n (mksu ge su o v b)) ((smS (va_up pa n o) (va_up ge n (mkg ge o)) dp i (n + 1) (va_up mk ((150 * i) + n) true) (n + 1)).2) dp (va_up sq i (sq i + nI 1)) (va_up tc ((4 * i) + d) (sq i + nI 1)) kp la) (va_A (wM ct g n dc pa va dl ge su mk dp sq tc kp la) sz)) 0 0 (va_A (wM ct g n dc pa va dl ge su mk dp sq tc kp la) sz) := by
  refine Met.ofW (cc := cX4_adds) (maxL := 7) (ret := (some .int)) (by decide) rfl ?_
  intro p e s m args below meth c s₁ B hml hv
  obtain ⟨rfl, hsz, hP, hK, hD0⟩ := hv
  have hx := B.exec
  have hb := B.bytes
  have hr := B.returns
  have hts := atoms_spec (ws := wsX4_adds) B.pre
  have hown : s.vm.findClass RX4 = some m.cls := findClass_of_methodNamed B.named
  have hlocks := B.notSynchronized
  subst hsz
  have hD := hD0.self (sz := s.heap.size)
  generalize hAe : va_A (wM ct g n dc pa va dl ge su mk dp sq tc kp la) s.heap.size = A at hD ⊢
  have hA : ∀ q : Nat, s.heap.size ≤ q → A q := fun q h => by rw [← hAe]; exact Or.inr h
  have hS : va_S A s.heap s.heap [] := va_S.rf
  have hP : va_P D vwCl (wM ct g n dc pa va dl ge su mk dp sq tc kp la) s.heap := hP
  clear hAe hD0
  have hl := lv_entry ([.ref (g 0), .int (nI i), .int (nI d), .int (eP o), .int v, .int (bI b)]) (n := 7) (Nat.le_of_ble_eq_true rfl)
  rw [lg_entry_eq]
  generalize (lg_sl ([.ref (g 0), .int (nI i), .int (nI d), .int (eP o), .int v, .int (bI b)]) ++ List.replicate (7 - (lg_sl ([.ref (g 0), .int (nI i), .int (nI d), .int (eP o), .int v, .int (bI b)])).length) Slot.unset).toArray = ls at hl ⊢
  have hl : lv_has ls 7 [(0, .ref (g 0)), (1, .int (nI i)), (2, .int (nI d)), (3, .int (eP o)), (4, .int v), (5, .int (bI b))] := hl
  have hH0 : s.heap.size ≤ s.heap.size := Nat.le_refl _
  refine lv_aload_n hx hb dX4_adds_0 rfl (lv_at hl 0 rfl) ?_
  refine lv_iload_n hx hb dX4_adds_1 rfl (lv_at hl 2 rfl) ?_
  refine lv_iload_n hx hb dX4_adds_2 rfl (lv_at hl 3 rfl) ?_
  refine lv_iload hx hb dX4_adds_3 (lv_at hl 4 rfl) ?_
  refine lv_iload hx hb dX4_adds_5 (lv_at hl 5 rfl) ?_
  refine r_wVi (As := [.int (nI d), .int (eP o), .int v, .int (bI b)]) (rest := []) ⟨hx, hb, hml, hown, hts⟩ (cX4_makes_new l D ct g n dc pa va dl ge su mk dp sq tc kp la d o v b (by first | assumption | omega) (by first | assumption | omega) (by first | assumption | omega) (by first | assumption | omega) (by first | assumption | omega) (by first | assumption | omega) s.heap.size) (cwV 4 hts gX4_adds_X4_makes rfl rfl rfl (by decide +kernel) ⟨Nat.le_of_ble_eq_true rfl, Nat.le_of_ble_eq_true rfl⟩) hK hP hD hS hA [0, 1, 2, 3, 4, 5, 6, 7, 8, 9, 10, 11] rfl rfl rfl 0 4 rfl rfl rfl hl.1 rfl (Nat.le_of_ble_eq_true rfl) dX4_adds_7 ⟨Nat.le_of_ble_eq_true rfl, Nat.le_of_ble_eq_true rfl⟩ (fun H locs hP hD hS => ?_)
  have hP : va_P D vwCl (wM ct g (n + 1) (va_up dc n d) (va_up pa n o) (va_up va n v) (va_up dl n b) (va_up ge n (mkg ge o)) (va_up su n (mksu ge su o v b)) mk dp sq tc kp la) H := hP
  have hD : va_D A (wM ct g (n + 1) (va_up dc n d) (va_up pa n o) (va_up va n v) (va_up dl n b) (va_up ge n (mkg ge o)) (va_up su n (mksu ge su o v b)) mk dp sq tc kp la) := hD
  refine lv_istore (lv' := [(6, .int (nI n)), (0, .ref (g 0)), (1, .int (nI i)), (2, .int (nI d)), (3, .int (eP o)), (4, .int v), (5, .int (bI b))]) hx hb dX4_adds_10 hl (by decide) rfl (fun ls hl => ?_)
  refine lv_aload_n hx hb dX4_adds_12 rfl (lv_at hl 1 rfl) ?_
  refine va_get (D := D) (ci := 4) (v := .ref (g 7)) (C := RX4) (T := TX4) (N := 13) hx hb hts (fun _ h => List.mem_cons_of_mem _ (List.mem_append_right _ h)) hown hK.1 hP 0 rfl rfl 7 (by decide) (hts (.fieldLink RX4 29 "RevisionStoresModel" "marks" "[Z") (List.mem_of_getElem? (i := 1) rfl)) (fun _ h9 => h9) rfl dX4_adds_13 ?_
  refine lv_sipush (v := nI 150) hx hb dX4_adds_16 (by decide) ?_
  refine lv_iload_n hx hb dX4_adds_19 rfl (lv_at hl 2 rfl) ?_
  refine r_imulN hx hb dX4_adds_20 ?_
  refine lv_iload hx hb dX4_adds_21 (lv_at hl 0 rfl) ?_
  refine r_iaddN hx hb dX4_adds_23 ?_
  refine r_zald (j := (150 * i) + n) (v := bI (mk ((150 * i) + n))) hx hb hK.1 hP 7 1 rfl rfl (by omega) (by first | decide | omega) rfl dX4_adds_24 ?_
  refine r_top (y := bI false) (congrArg bI (show (mk ((150 * i) + n)) = false from hm)) ?_
  refine r_if_neB (x := false) (tgt := 54) hx hb dX4_adds_25 (by decide) (fun c25 => by cases c25) (fun c25 => ?_)
  refine lv_aload_n hx hb dX4_adds_28 rfl (lv_at hl 1 rfl) ?_
  refine va_get (D := D) (ci := 4) (v := .ref (g 7)) (C := RX4) (T := TX4) (N := 13) hx hb hts (fun _ h => List.mem_cons_of_mem _ (List.mem_append_right _ h)) hown hK.1 hP 0 rfl rfl 7 (by decide) (hts (.fieldLink RX4 29 "RevisionStoresModel" "marks" "[Z") (List.mem_of_getElem? (i := 1) rfl)) (fun _ h9 => h9) rfl dX4_adds_29 ?_
  refine lv_sipush (v := nI 150) hx hb dX4_adds_32 (by decide) ?_
  refine lv_iload_n hx hb dX4_adds_35 rfl (lv_at hl 2 rfl) ?_
  refine r_imulN hx hb dX4_adds_36 ?_
  refine lv_iload hx hb dX4_adds_37 (lv_at hl 0 rfl) ?_
  refine r_iaddN hx hb dX4_adds_39 ?_
  refine lv_iconst (v := nI 1) hx hb dX4_adds_40 (by decide) ?_
  refine r_zast (j := (150 * i) + n) (x := true) (f' := fun q9 => bI ((va_up mk ((150 * i) + n) true) q9)) hx hb hK.1 hP hD hS 7 1 rfl rfl (by omega) (by first | decide | omega) (up_b _ _ _) dX4_adds_41 (fun H locs hP hD hS => ?_)
  have hP : va_P D vwCl (wM ct g (n + 1) (va_up dc n d) (va_up pa n o) (va_up va n v) (va_up dl n b) (va_up ge n (mkg ge o)) (va_up su n (mksu ge su o v b)) (va_up mk ((150 * i) + n) true) dp sq tc kp la) H := hP
  have hD : va_D A (wM ct g (n + 1) (va_up dc n d) (va_up pa n o) (va_up va n v) (va_up dl n b) (va_up ge n (mkg ge o)) (va_up su n (mksu ge su o v b)) (va_up mk ((150 * i) + n) true) dp sq tc kp la) := hD
  refine lv_aload_n hx hb dX4_adds_42 rfl (lv_at hl 1 rfl) ?_
  refine lv_iload_n hx hb dX4_adds_43 rfl (lv_at hl 2 rfl) ?_
  refine lv_iload_n hx hb dX4_adds_44 rfl (lv_at hl 3 rfl) ?_
  refine r_wVv (As := [.int (nI i), .int (nI d)]) (rest := []) ⟨hx, hb, hml, hown, hts⟩ (cX4_touches_ok l D ct g (n + 1) (va_up dc n d) (va_up pa n o) (va_up va n v) (va_up dl n b) (va_up ge n (mkg ge o)) (va_up su n (mksu ge su o v b)) (va_up mk ((150 * i) + n) true) dp sq tc kp la i d (by first | assumption | omega) (by first | assumption | omega) H.size) (cwV 2 hts gX4_adds_X4_touches rfl rfl rfl (by decide +kernel) ⟨Nat.le_of_ble_eq_true rfl, Nat.le_of_ble_eq_true rfl⟩) hK hP hD hS hA [0, 1, 2, 3, 4, 5, 6, 7, 8, 9, 10, 11] rfl rfl rfl 0 4 rfl rfl rfl hl.1 rfl (Nat.le_of_ble_eq_true rfl) dX4_adds_45 ⟨Nat.le_of_ble_eq_true rfl, Nat.le_of_ble_eq_true rfl⟩ (fun H locs hP hD hS => ?_)
  have hP : va_P D vwCl (wM ct g (n + 1) (va_up dc n d) (va_up pa n o) (va_up va n v) (va_up dl n b) (va_up ge n (mkg ge o)) (va_up su n (mksu ge su o v b)) (va_up mk ((150 * i) + n) true) dp (va_up sq i (sq i + nI 1)) (va_up tc ((4 * i) + d) (sq i + nI 1)) kp la) H := hP
  have hD : va_D A (wM ct g (n + 1) (va_up dc n d) (va_up pa n o) (va_up va n v) (va_up dl n b) (va_up ge n (mkg ge o)) (va_up su n (mksu ge su o v b)) (va_up mk ((150 * i) + n) true) dp (va_up sq i (sq i + nI 1)) (va_up tc ((4 * i) + d) (sq i + nI 1)) kp la) := hD
  refine lv_aload_n hx hb dX4_adds_48 rfl (lv_at hl 1 rfl) ?_
  refine lv_iload_n hx hb dX4_adds_49 rfl (lv_at hl 2 rfl) ?_
  refine r_wVi (As := [.int (nI i)]) (rest := []) ⟨hx, hb, hml, hown, hts⟩ (cX4_stems_ok l D ct g (n + 1) (va_up dc n d) (va_up pa n o) (va_up va n v) (va_up dl n b) (va_up ge n (mkg ge o)) (va_up su n (mksu ge su o v b)) (va_up mk ((150 * i) + n) true) dp (va_up sq i (sq i + nI 1)) (va_up tc ((4 * i) + d) (sq i + nI 1)) kp la i (hn) (up_Tg hTg hg1) (up_Tp hTp ho) (hi) H.size) (cwV 1 hts gX4_adds_X4_stems rfl rfl rfl (by decide +kernel) ⟨Nat.le_of_ble_eq_true rfl, Nat.le_of_ble_eq_true rfl⟩) hK hP hD hS hA [0, 1, 2, 3, 4, 5, 6, 7, 8, 9, 10, 11] rfl rfl rfl 0 4 rfl rfl rfl hl.1 rfl (Nat.le_of_ble_eq_true rfl) dX4_adds_50 ⟨Nat.le_of_ble_eq_true rfl, Nat.le_of_ble_eq_true rfl⟩ (fun H locs hP hD hS => ?_)
  have hP : va_P D vwCl (wM ct g (n + 1) (va_up dc n d) (va_up pa n o) (va_up va n v) (va_up dl n b) (va_up ge n (mkg ge o)) (va_up su n (mksu ge su o v b)) ((smS (va_up pa n o) (va_up ge n (mkg ge o)) dp i (n + 1) (va_up mk ((150 * i) + n) true) (n + 1)).2) dp (va_up sq i (sq i + nI 1)) (va_up tc ((4 * i) + d) (sq i + nI 1)) kp la) H := hP
  have hD : va_D A (wM ct g (n + 1) (va_up dc n d) (va_up pa n o) (va_up va n v) (va_up dl n b) (va_up ge n (mkg ge o)) (va_up su n (mksu ge su o v b)) ((smS (va_up pa n o) (va_up ge n (mkg ge o)) dp i (n + 1) (va_up mk ((150 * i) + n) true) (n + 1)).2) dp (va_up sq i (sq i + nI 1)) (va_up tc ((4 * i) + d) (sq i + nI 1)) kp la) := hD
  refine lv_pop hx hb dX4_adds_53 rfl ?_
  refine lv_iload hx hb dX4_adds_54 (lv_at hl 0 rfl) ?_
  have hP : va_P D vwCl (wM ct g (n + 1) (va_up dc n d) (va_up pa n o) (va_up va n v) (va_up dl n b) (va_up ge n (mkg ge o)) (va_up su n (mksu ge su o v b)) ((smS (va_up pa n o) (va_up ge n (mkg ge o)) dp i (n + 1) (va_up mk ((150 * i) + n) true) (n + 1)).2) dp (va_up sq i (sq i + nI 1)) (va_up tc ((4 * i) + d) (sq i + nI 1)) kp la) H := hP
  exact W.iret hx hb hr (fun t ht hW => ⟨⟨_, (), rfl, rfl, by show va_P D vwCl _ t.heap; rw [ht]; exact hP⟩, hS.F ht⟩) hS.2.2 dX4_adds_56
set_option maxHeartbeats 8000000 in
set_option maxRecDepth 100000 in
theorem cX4_canEdit_ok (l : Launch) (D : va_G) (ct : Nat → ClassId) (g : Nat → Nat) (n : Nat) (dc : Nat → Nat) (pa : Nat → Option Nat) (va : Nat → Int32) (dl : Nat → Bool) (ge : Nat → Nat) (su : Nat → Int32) (mk : Nat → Bool) (dp : Nat → Int32) (sq : Nat → Int32) (tc : Nat → Int32) (kp : Nat → Int32) (la : Int32) (i : Nat) (d : Nat) (o : Option Nat) (hn : n ≤ 150) (hTd : ∀ k, dc k < 4) (hTg : ∀ k, ge k ≤ 150) (hTp : ∀ k j, k < n → pa k = some j → j < k) (hi : i < 3) (hd4 : d < 4) (ho : ∀ j, o = some j → j < n) : Met l yX4_canEdit wsX4_canEdit ({ frames := 4, cells := 0, slots := 0, locals := 94 } : Room) (roPc D ct [.ref (g 0), .int (nI i), .int (nI d), .int (eP o)] (wM ct g n dc pa va dl ge su mk dp sq tc kp la)) (rqI (bI (cne dc (lef pa mk i n) (bsS dc dl ge su (lef pa mk i n) d n) n d o))) 0 0 (fun _ => False) := by
  refine Met.ofW (cc := cX4_canEdit) (maxL := 5) (ret := (some .boolean)) (by decide) rfl ?_
  intro p e s m args below meth c s₁ B hml hv
  obtain ⟨rfl, hP, hK⟩ := hv
  have hx := B.exec
  have hb := B.bytes
  have hr := B.returns
  have hts := atoms_spec (ws := wsX4_canEdit) B.pre
  have hown : s.vm.findClass RX4 = some m.cls := findClass_of_methodNamed B.named
  have hlocks := B.notSynchronized
  have hl := lv_entry ([.ref (g 0), .int (nI i), .int (nI d), .int (eP o)]) (n := 5) (Nat.le_of_ble_eq_true rfl)
  rw [lg_entry_eq]
  generalize (lg_sl ([.ref (g 0), .int (nI i), .int (nI d), .int (eP o)]) ++ List.replicate (5 - (lg_sl ([.ref (g 0), .int (nI i), .int (nI d), .int (eP o)])).length) Slot.unset).toArray = ls at hl ⊢
  have hl : lv_has ls 5 [(0, .ref (g 0)), (1, .int (nI i)), (2, .int (nI d)), (3, .int (eP o))] := hl
  refine lv_iload_n hx hb dX4_canEdit_0 rfl (lv_at hl 3 rfl) ?_
  refine lv_iconst (v := -1) hx hb dX4_canEdit_1 (by decide) ?_
  refine r_icmp_neP hx hb (x := o) (by intro j9 h9; first | (have := ho _ h9; omega) | (have := bsS_lt _ _ _ _ _ _ _ _ h9; omega)) (tgt := 23) dX4_canEdit_2 (by decide) (fun j2 c2 => ?_) (fun c2 => ?_)
  · have hl := lv_re (f := fun z9 => [(0, .ref (g 0)), (1, .int (nI i)), (2, .int (nI d)), (3, .int z9)]) hl (show eP o = nI j2 from congrArg eP c2)
    have e23 := ho _ c2
    refine lv_aload_n hx hb dX4_canEdit_23 rfl (lv_at hl 0 rfl) ?_
    refine va_get (D := D) (ci := 4) (v := .ref (g 1)) (C := RX4) (T := TX4) (N := 13) hx hb hts (fun _ h => List.mem_cons_of_mem _ (List.mem_append_right _ h)) hown hK.1 hP 0 rfl rfl 0 (by decide) (hts (.fieldLink RX4 7 "RevisionStoresModel" "documents" "[I") (List.mem_of_getElem? (i := 1) rfl)) (fun _ h9 => h9) rfl dX4_canEdit_24 ?_
    refine lv_iload_n hx hb dX4_canEdit_27 rfl (lv_at hl 3 rfl) ?_
    refine r_iald (j := j2) (v := nI (dc j2)) hx hb hK.1 hP 1 0 rfl rfl (by omega) (by first | decide | omega) rfl dX4_canEdit_28 ?_
    have f28 := hTd j2
    refine lv_iload_n hx hb dX4_canEdit_29 rfl (lv_at hl 2 rfl) ?_
    refine r_icmp_neN hx hb (x := dc j2) (y := d) (by first | omega | decide) (by first | omega | decide) (tgt := 46) dX4_canEdit_30 (by decide) (fun c30 => ?_) (fun c30 => ?_)
    · refine lv_iconst (v := nI 0) hx hb dX4_canEdit_46 (by decide) ?_
      refine lv_istore (lv' := [(4, .int (nI 0)), (0, .ref (g 0)), (1, .int (nI i)), (2, .int (nI d)), (3, .int (nI j2))]) hx hb dX4_canEdit_47 hl (by decide) rfl (fun ls hl => ?_)
      refine lv_iload hx hb dX4_canEdit_49 (lv_at hl 0 rfl) ?_
      refine r_if_eqB (x := false) (tgt := 68) hx hb dX4_canEdit_51 (by decide) (fun c51 => ?_) (fun c51 => by cases c51)
      refine lv_iconst (v := nI 0) hx hb dX4_canEdit_68 (by decide) ?_
      refine r_top (y := bI (cne dc (lef pa mk i n) (bsS dc dl ge su (lef pa mk i n) d n) n d o)) (congrArg bI (show false = (cne dc (lef pa mk i n) (bsS dc dl ge su (lef pa mk i n) d n) n d o) from by simp [cne, c2, c30, c51])) ?_
      exact W.zret hx hb hr (bI_narrow _) (fun t ht hW => ⟨_, rfl, rfl, ht⟩) (fun _ h => by cases h) dX4_canEdit_69
    · refine lv_aload_n hx hb dX4_canEdit_33 rfl (lv_at hl 0 rfl) ?_
      refine lv_iload_n hx hb dX4_canEdit_34 rfl (lv_at hl 1 rfl) ?_
      refine lv_iload_n hx hb dX4_canEdit_35 rfl (lv_at hl 3 rfl) ?_
      refine r_cV (As := [.int (nI i), .int (nI j2)]) (rest := []) ⟨hx, hb, hml, hown, hts⟩ (cX4_leaf_ok l D ct g n dc pa va dl ge su mk dp sq tc kp la i j2 (by first | assumption | omega) (by first | assumption | omega) (by first | assumption | omega) (by first | assumption | omega)) (cwV 2 hts gX4_canEdit_X4_leaf rfl rfl rfl (by decide +kernel) ⟨Nat.le_of_ble_eq_true rfl, Nat.le_of_ble_eq_true rfl⟩) hK (hP.sub (ws' := wM ct g n dc pa va dl ge su mk dp sq tc kp la) [0, 1, 2, 3, 4, 5, 6, 7, 8, 9, 10, 11] rfl) 0 4 rfl rfl rfl hl.1 rfl (Nat.le_of_ble_eq_true rfl) dX4_canEdit_36 ⟨Nat.le_of_ble_eq_true rfl, Nat.le_of_ble_eq_true rfl⟩ ?_
      refine r_if_eqB (x := lef pa mk i n j2) (tgt := 46) hx hb dX4_canEdit_39 (by decide) (fun c39 => ?_) (fun c39 => ?_)
      · refine lv_iconst (v := nI 0) hx hb dX4_canEdit_46 (by decide) ?_
        refine lv_istore (lv' := [(4, .int (nI 0)), (0, .ref (g 0)), (1, .int (nI i)), (2, .int (nI d)), (3, .int (nI j2))]) hx hb dX4_canEdit_47 hl (by decide) rfl (fun ls hl => ?_)
        refine lv_iload hx hb dX4_canEdit_49 (lv_at hl 0 rfl) ?_
        refine r_if_eqB (x := false) (tgt := 68) hx hb dX4_canEdit_51 (by decide) (fun c51 => ?_) (fun c51 => by cases c51)
        refine lv_iconst (v := nI 0) hx hb dX4_canEdit_68 (by decide) ?_
        refine r_top (y := bI (cne dc (lef pa mk i n) (bsS dc dl ge su (lef pa mk i n) d n) n d o)) (congrArg bI (show false = (cne dc (lef pa mk i n) (bsS dc dl ge su (lef pa mk i n) d n) n d o) from by simp [cne, c2, c30, c39, c51])) ?_
        exact W.zret hx hb hr (bI_narrow _) (fun t ht hW => ⟨_, rfl, rfl, ht⟩) (fun _ h => by cases h) dX4_canEdit_69
      · refine lv_iconst (v := nI 1) hx hb dX4_canEdit_42 (by decide) ?_
        refine lv_goto (tgt := 47) hx hb dX4_canEdit_43 (by decide) ?_
        refine lv_istore (lv' := [(4, .int (nI 1)), (0, .ref (g 0)), (1, .int (nI i)), (2, .int (nI d)), (3, .int (nI j2))]) hx hb dX4_canEdit_47 hl (by decide) rfl (fun ls hl => ?_)
        refine lv_iload hx hb dX4_canEdit_49 (lv_at hl 0 rfl) ?_
        refine r_if_eqB (x := true) (tgt := 68) hx hb dX4_canEdit_51 (by decide) (fun c51 => by cases c51) (fun c51 => ?_)
        refine lv_aload_n hx hb dX4_canEdit_54 rfl (lv_at hl 1 rfl) ?_
        refine va_get (D := D) (ci := 4) (v := .int (nI n)) (C := RX4) (T := TX4) (N := 13) hx hb hts (fun _ h => List.mem_cons_of_mem _ (List.mem_append_right _ h)) hown hK.1 hP 0 rfl rfl 6 (by decide) (hts (.fieldLink RX4 52 "RevisionStoresModel" "revisions" "I") (List.mem_of_getElem? (i := 2) rfl)) (fun _ h9 => h9) rfl dX4_canEdit_55 ?_
        refine lv_sipush (v := nI 150) hx hb dX4_canEdit_58 (by decide) ?_
        refine r_icmp_geN hx hb (x := n) (y := 150) (by first | omega | decide) (by first | omega | decide) (tgt := 68) dX4_canEdit_61 (by decide) (fun c61 => ?_) (fun c61 => ?_)
        · refine lv_iconst (v := nI 0) hx hb dX4_canEdit_68 (by decide) ?_
          refine r_top (y := bI (cne dc (lef pa mk i n) (bsS dc dl ge su (lef pa mk i n) d n) n d o)) (congrArg bI (show false = (cne dc (lef pa mk i n) (bsS dc dl ge su (lef pa mk i n) d n) n d o) from by simp [cne, c2, c30, c39, c51, c61])) ?_
          exact W.zret hx hb hr (bI_narrow _) (fun t ht hW => ⟨_, rfl, rfl, ht⟩) (fun _ h => by cases h) dX4_canEdit_69
        · refine lv_iconst (v := nI 1) hx hb dX4_canEdit_64 (by decide) ?_
          refine lv_goto (tgt := 69) hx hb dX4_canEdit_65 (by decide) ?_
          refine r_top (y := bI (cne dc (lef pa mk i n) (bsS dc dl ge su (lef pa mk i n) d n) n d o)) (congrArg bI (show true = (cne dc (lef pa mk i n) (bsS dc dl ge su (lef pa mk i n) d n) n d o) from by simp [cne, c2, c30, c39, c51, c61])) ?_
          exact W.zret hx hb hr (bI_narrow _) (fun t ht hW => ⟨_, rfl, rfl, ht⟩) (fun _ h => by cases h) dX4_canEdit_69
  · have hl := lv_re (f := fun z9 => [(0, .ref (g 0)), (1, .int (nI i)), (2, .int (nI d)), (3, .int z9)]) hl (show eP o = eP none from congrArg eP c2)
    refine lv_aload_n hx hb dX4_canEdit_5 rfl (lv_at hl 0 rfl) ?_
    refine lv_iload_n hx hb dX4_canEdit_6 rfl (lv_at hl 1 rfl) ?_
    refine lv_iload_n hx hb dX4_canEdit_7 rfl (lv_at hl 2 rfl) ?_
    refine r_cV (As := [.int (nI i), .int (nI d)]) (rest := []) ⟨hx, hb, hml, hown, hts⟩ (cX4_best_ok l D ct g n dc pa va dl ge su mk dp sq tc kp la i d (by first | assumption | omega) (by first | assumption | omega) (by first | assumption | omega) (by first | assumption | omega) (by first | assumption | omega) (by first | assumption | omega)) (cwV 2 hts gX4_canEdit_X4_best rfl rfl rfl (by decide +kernel) ⟨Nat.le_of_ble_eq_true rfl, Nat.le_of_ble_eq_true rfl⟩) hK (hP.sub (ws' := wM ct g n dc pa va dl ge su mk dp sq tc kp la) [0, 1, 2, 3, 4, 5, 6, 7, 8, 9, 10, 11] rfl) 0 4 rfl rfl rfl hl.1 rfl (Nat.le_of_ble_eq_true rfl) dX4_canEdit_8 ⟨Nat.le_of_ble_eq_true rfl, Nat.le_of_ble_eq_true rfl⟩ ?_
    refine lv_iconst (v := -1) hx hb dX4_canEdit_11 (by decide) ?_
    refine r_icmp_neP hx hb (x := bsS dc dl ge su (lef pa mk i n) d n) (by intro j9 h9; first | (have := ho _ h9; omega) | (have := bsS_lt _ _ _ _ _ _ _ _ h9; omega)) (tgt := 19) dX4_canEdit_12 (by decide) (fun j12 c12 => ?_) (fun c12 => ?_)
    · refine lv_iconst (v := nI 0) hx hb dX4_canEdit_19 (by decide) ?_
      refine lv_goto (tgt := 47) hx hb dX4_canEdit_20 (by decide) ?_
      refine lv_istore (lv' := [(4, .int (nI 0)), (0, .ref (g 0)), (1, .int (nI i)), (2, .int (nI d)), (3, .int (eP none))]) hx hb dX4_canEdit_47 hl (by decide) rfl (fun ls hl => ?_)
      refine lv_iload hx hb dX4_canEdit_49 (lv_at hl 0 rfl) ?_
      refine r_if_eqB (x := false) (tgt := 68) hx hb dX4_canEdit_51 (by decide) (fun c51 => ?_) (fun c51 => by cases c51)
      refine lv_iconst (v := nI 0) hx hb dX4_canEdit_68 (by decide) ?_
      refine r_top (y := bI (cne dc (lef pa mk i n) (bsS dc dl ge su (lef pa mk i n) d n) n d o)) (congrArg bI (show false = (cne dc (lef pa mk i n) (bsS dc dl ge su (lef pa mk i n) d n) n d o) from by simp [cne, c2, c12, c51])) ?_
      exact W.zret hx hb hr (bI_narrow _) (fun t ht hW => ⟨_, rfl, rfl, ht⟩) (fun _ h => by cases h) dX4_canEdit_69
    · refine lv_iconst (v := nI 1) hx hb dX4_canEdit_15 (by decide) ?_
      refine lv_goto (tgt := 47) hx hb dX4_canEdit_16 (by decide) ?_
      refine lv_istore (lv' := [(4, .int (nI 1)), (0, .ref (g 0)), (1, .int (nI i)), (2, .int (nI d)), (3, .int (eP none))]) hx hb dX4_canEdit_47 hl (by decide) rfl (fun ls hl => ?_)
      refine lv_iload hx hb dX4_canEdit_49 (lv_at hl 0 rfl) ?_
      refine r_if_eqB (x := true) (tgt := 68) hx hb dX4_canEdit_51 (by decide) (fun c51 => by cases c51) (fun c51 => ?_)
      refine lv_aload_n hx hb dX4_canEdit_54 rfl (lv_at hl 1 rfl) ?_
      refine va_get (D := D) (ci := 4) (v := .int (nI n)) (C := RX4) (T := TX4) (N := 13) hx hb hts (fun _ h => List.mem_cons_of_mem _ (List.mem_append_right _ h)) hown hK.1 hP 0 rfl rfl 6 (by decide) (hts (.fieldLink RX4 52 "RevisionStoresModel" "revisions" "I") (List.mem_of_getElem? (i := 2) rfl)) (fun _ h9 => h9) rfl dX4_canEdit_55 ?_
      refine lv_sipush (v := nI 150) hx hb dX4_canEdit_58 (by decide) ?_
      refine r_icmp_geN hx hb (x := n) (y := 150) (by first | omega | decide) (by first | omega | decide) (tgt := 68) dX4_canEdit_61 (by decide) (fun c61 => ?_) (fun c61 => ?_)
      · refine lv_iconst (v := nI 0) hx hb dX4_canEdit_68 (by decide) ?_
        refine r_top (y := bI (cne dc (lef pa mk i n) (bsS dc dl ge su (lef pa mk i n) d n) n d o)) (congrArg bI (show false = (cne dc (lef pa mk i n) (bsS dc dl ge su (lef pa mk i n) d n) n d o) from by simp [cne, c2, c12, c51, c61])) ?_
        exact W.zret hx hb hr (bI_narrow _) (fun t ht hW => ⟨_, rfl, rfl, ht⟩) (fun _ h => by cases h) dX4_canEdit_69
      · refine lv_iconst (v := nI 1) hx hb dX4_canEdit_64 (by decide) ?_
        refine lv_goto (tgt := 69) hx hb dX4_canEdit_65 (by decide) ?_
        refine r_top (y := bI (cne dc (lef pa mk i n) (bsS dc dl ge su (lef pa mk i n) d n) n d o)) (congrArg bI (show true = (cne dc (lef pa mk i n) (bsS dc dl ge su (lef pa mk i n) d n) n d o) from by simp [cne, c2, c12, c51, c61])) ?_
        exact W.zret hx hb hr (bI_narrow _) (fun t ht hW => ⟨_, rfl, rfl, ht⟩) (fun _ h => by cases h) dX4_canEdit_69
