set_option maxHeartbeats 8000000 in
set_option maxRecDepth 100000 in
theorem cJ7_fill_53178_ok (l : Launch) (D : va_G) (ct : Nat → ClassId) (b : Nat) (len : Nat) (f : Nat → Int32) (x : Int32) (f2 : Nat → Int32) (hlen : len < 2 ^ 31) (hf2 : ∀ j, j < len → f2 j = x) (sz : Nat) : Met l yJ7_fill_53178 wsJ7_fill_53178 ({ frames := 0, cells := 0, slots := 0, locals := 0 } : Room) (wrPc D ct [.ref b, .int x] (wA ct b len f) sz) (wqV D (wA ct b len f2) (va_A (wA ct b len f) sz)) 0 0 (va_A (wA ct b len f) sz) := by
  refine Met.ofW (cc := cJ7_fill_53178) (maxL := 4) (ret := none) (by decide) rfl ?_
  intro p e s m args below meth c s₁ B hml hv
  obtain ⟨rfl, hsz, hP, hK, hD0⟩ := hv
  have hx := B.exec
  have hb := B.bytes
  have hr := B.returns
  have hts := atoms_spec (ws := wsJ7_fill_53178) B.pre
  have hown : s.vm.findClass RJ7 = some m.cls := findClass_of_methodNamed B.named
  have hlocks := B.notSynchronized
  subst hsz
  have hD := hD0.self (sz := s.heap.size)
  generalize hAe : va_A (wA ct b len f) s.heap.size = A at hD ⊢
  have hA : ∀ q : Nat, s.heap.size ≤ q → A q := fun q h => by rw [← hAe]; exact Or.inr h
  have hS : va_S A s.heap s.heap [] := va_S.rf
  have hP : va_P D vwCl (wA ct b len f) s.heap := hP
  clear hAe hD0
  have hl := lv_entry ([.ref b, .int x]) (n := 4) (Nat.le_of_ble_eq_true rfl)
  rw [lg_entry_eq]
  generalize (lg_sl ([.ref b, .int x]) ++ List.replicate (4 - (lg_sl ([.ref b, .int x])).length) Slot.unset).toArray = ls at hl ⊢
  have hl : lv_has ls 4 [(0, .ref b), (1, .int x)] := hl
  have hH0 : s.heap.size ≤ s.heap.size := Nat.le_refl _
  refine lv_iconst (v := nI 0) hx hb dJ7_fill_53178_0 (by decide) ?_
  refine lv_istore_n (lv' := [(2, .int (nI 0)), (0, .ref b), (1, .int x)]) hx hb dJ7_fill_53178_1 rfl hl (by decide) rfl (fun ls hl => ?_)
  refine lv_aload_n hx hb dJ7_fill_53178_2 rfl (lv_at hl 1 rfl) ?_
  refine va_alen (v := nI len) hx hb hK.1 hP 0 0 rfl rfl rfl dJ7_fill_53178_3 ?_
  refine lv_istore_n (lv' := [(3, .int (nI len)), (2, .int (nI 0)), (0, .ref b), (1, .int x)]) hx hb dJ7_fill_53178_4 rfl hl (by decide) rfl (fun ls hl => ?_)
  have key5 : ∀ (d5 : Nat) (k : Nat) (hk : k ≤ len), len - k < d5 → ∀ (H : Heap) (locs : List Loc) (ls : Array Slot), va_P D vwCl (wA ct b len (fil f x k)) H → va_D A (wA ct b len (fil f x k)) → va_S A s.heap H locs → lv_has ls 4 [(3, .int (nI len)), (2, .int (nI k)), (0, .ref b), (1, .int x)] → W p l e ({ frames := 0, cells := 0, slots := 0, locals := 0 } : Room) s m ([.ref b, .int x] : List Value).toArray below meth c H locs 0 0 (MQ below (wqV D (wA ct b len f2) A) ([.ref b, .int x] : List Value).toArray s 0 0 A) (F0 m 5 ls []) := by
    intro d5
    induction d5 with
    | zero => intro k hk h9; exact absurd h9 (Nat.not_lt_zero _)
    | succ d5 ih5 =>
      intro k hk hm5 H locs ls hP hD hS hl
      refine lv_iload_n hx hb dJ7_fill_53178_5 rfl (lv_at hl 1 rfl) ?_
      refine lv_iload_n hx hb dJ7_fill_53178_6 rfl (lv_at hl 0 rfl) ?_
      refine r_icmp_geN hx hb (x := k) (y := len) (by first | omega | decide) (by first | omega | decide) (tgt := 20) dJ7_fill_53178_7 (by decide) (fun c7 => ?_) (fun c7 => ?_)
      · have hP : va_P D vwCl (wA ct b len f2) H := wA_cong (fun j hj => by rw [hf2 j hj]; exact if_pos (by omega)) hP
        exact W.vret hx hb hr (fun t ht hW => ⟨⟨(), rfl, trivial, by show va_P D vwCl _ t.heap; rw [ht]; exact hP⟩, hS.F ht⟩) hS.2.2 dJ7_fill_53178_20
      · refine lv_aload_n hx hb dJ7_fill_53178_10 rfl (lv_at hl 2 rfl) ?_
        refine lv_iload_n hx hb dJ7_fill_53178_11 rfl (lv_at hl 1 rfl) ?_
        refine lv_iload_n hx hb dJ7_fill_53178_12 rfl (lv_at hl 3 rfl) ?_
        refine r_iast (j := k) (x := x) (f' := va_up (fil f x k) k x) hx hb hK.1 hP hD hS 0 0 rfl rfl (by omega) (by first | decide | omega) (up_i _ _ _) dJ7_fill_53178_13 (fun H locs hP hD hS => ?_)
        have hP : va_P D vwCl (wA ct b len (va_up (fil f x k) k x)) H := hP
        have hD : va_D A (wA ct b len (va_up (fil f x k) k x)) := hD
        refine lv_iinc (v := nI (k + 1)) (lv' := [(2, .int (nI (k + 1))), (3, .int (nI len)), (0, .ref b), (1, .int x)]) hx hb dJ7_fill_53178_14 hl (k := 1) rfl (nI_1 _) (by decide) rfl (fun ls hl => ?_)
        refine lv_goto (tgt := 5) hx hb dJ7_fill_53178_17 (by decide) ?_
        have e9 : (va_up (fil f x k) k x) = (fil f x (k + 1)) := fil_s f x k
        have hP := (congrArg (fun z9 => va_P D vwCl (wA ct b len z9) H) e9).mp hP
        have hD := (congrArg (fun z9 => va_D A (wA ct b len z9)) e9).mp hD
        have hP : va_P D vwCl (wA ct b len (fil f x (k + 1))) H := hP
        have hD : va_D A (wA ct b len (fil f x (k + 1))) := hD
        exact ih5 (k + 1) (by first | assumption | omega) (by omega) H locs ls hP hD hS (lv_sub hl [1, 0, 2, 3] rfl)
  have e9 : f = (fil f x 0) := fil_0 f x
  have hP := (congrArg (fun z9 => va_P D vwCl (wA ct b len z9) s.heap) e9).mp hP
  have hD := (congrArg (fun z9 => va_D A (wA ct b len z9)) e9).mp hD
  have hP : va_P D vwCl (wA ct b len (fil f x 0)) s.heap := hP
  have hD : va_D A (wA ct b len (fil f x 0)) := hD
  exact key5 ((len - 0) + 1) 0 (by first | assumption | omega) (Nat.lt_succ_self _) _ _ ls hP hD hS (lv_sub hl [0, 1, 2, 3] rfl)
set_option maxHeartbeats 8000000 in
set_option maxRecDepth 100000 in
theorem cX2_find_ok (l : Launch) (D : va_G) (ct : Nat → ClassId) (a : Nat → Nat) (n : Nat) (dc : Nat → Nat) (pa : Nat → Option Nat) (va : Nat → Int32) (dl : Nat → Bool) (ge : Nat → Nat) (su : Nat → Int32) (d : Nat) (o : Option Nat) (v : Int32) (b : Bool) (hn : n ≤ 150) (hTd : ∀ k, dc k < 4) (hd4 : d < 4) : Met l yX2_find wsX2_find ({ frames := 0, cells := 0, slots := 0, locals := 0 } : Room) (roPc D ct [.ref (a 0), .int (nI d), .int (eP o), .int v, .int (bI b)] (wT ct a n dc pa va dl ge su)) (rqI (eP (ffd (fnd dc pa va dl d o v b) n))) 0 0 (fun _ => False) := by
  refine Met.ofW (cc := cX2_find) (maxL := 6) (ret := (some .int)) (by decide) rfl ?_
  intro p e s m args below meth c s₁ B hml hv
  obtain ⟨rfl, hP, hK⟩ := hv
  have hx := B.exec
  have hb := B.bytes
  have hr := B.returns
  have hts := atoms_spec (ws := wsX2_find) B.pre
  have hown : s.vm.findClass RX2 = some m.cls := findClass_of_methodNamed B.named
  have hlocks := B.notSynchronized
  have hl := lv_entry ([.ref (a 0), .int (nI d), .int (eP o), .int v, .int (bI b)]) (n := 6) (Nat.le_of_ble_eq_true rfl)
  rw [lg_entry_eq]
  generalize (lg_sl ([.ref (a 0), .int (nI d), .int (eP o), .int v, .int (bI b)]) ++ List.replicate (6 - (lg_sl ([.ref (a 0), .int (nI d), .int (eP o), .int v, .int (bI b)])).length) Slot.unset).toArray = ls at hl ⊢
  have hl : lv_has ls 6 [(0, .ref (a 0)), (1, .int (nI d)), (2, .int (eP o)), (3, .int v), (4, .int (bI b))] := hl
  refine lv_iconst (v := nI 0) hx hb dX2_find_0 (by decide) ?_
  refine lv_istore (lv' := [(5, .int (nI 0)), (0, .ref (a 0)), (1, .int (nI d)), (2, .int (eP o)), (3, .int v), (4, .int (bI b))]) hx hb dX2_find_1 hl (by decide) rfl (fun ls hl => ?_)
  have key3 : ∀ (d3 : Nat) (k : Nat) (hk : k ≤ n) (hno : ffd (fnd dc pa va dl d o v b) k = none), n - k < d3 → ∀  (ls : Array Slot), lv_has ls 6 [(5, .int (nI k)), (0, .ref (a 0)), (1, .int (nI d)), (2, .int (eP o)), (3, .int v), (4, .int (bI b))] → W p l e ({ frames := 0, cells := 0, slots := 0, locals := 0 } : Room) s m ([.ref (a 0), .int (nI d), .int (eP o), .int v, .int (bI b)] : List Value).toArray below meth c s.heap [] 0 0 (MQ below (rqI (eP (ffd (fnd dc pa va dl d o v b) n))) ([.ref (a 0), .int (nI d), .int (eP o), .int v, .int (bI b)] : List Value).toArray s 0 0 (fun _ => False)) (F0 m 3 ls []) := by
    intro d3
    induction d3 with
    | zero => intro k hk hno h9; exact absurd h9 (Nat.not_lt_zero _)
    | succ d3 ih3 =>
      intro k hk hno hm3  ls  hl
      refine lv_iload hx hb dX2_find_3 (lv_at hl 0 rfl) ?_
      refine lv_aload_n hx hb dX2_find_5 rfl (lv_at hl 1 rfl) ?_
      refine va_get (D := D) (ci := 2) (v := .int (nI n)) (C := RX2) (T := TX2) (N := 7) hx hb hts (fun _ h => List.mem_cons_of_mem _ (List.mem_append_right _ h)) hown hK.1 hP 0 rfl rfl 6 (by decide) (hts (.fieldLink RX2 31 "RevisionStores$Tree" "made" "I") (List.mem_of_getElem? (i := 1) rfl)) (fun _ h9 => h9) rfl dX2_find_6 ?_
      refine r_icmp_geN hx hb (x := k) (y := n) (by first | omega | decide) (by first | omega | decide) (tgt := 66) dX2_find_9 (by decide) (fun c9 => ?_) (fun c9 => ?_)
      · refine lv_iconst (v := -1) hx hb dX2_find_66 (by decide) ?_
        refine r_top (y := eP (ffd (fnd dc pa va dl d o v b) n)) (congrArg eP (show none = (ffd (fnd dc pa va dl d o v b) n) from by first | exact (ffd_hit (n := n) hno (by simp [fnd, c9]) (by omega)).symm | (rw [show n = k by omega, hno]))) ?_
        exact W.iret hx hb hr (fun t ht hW => ⟨_, rfl, rfl, ht⟩) (fun _ h => by cases h) dX2_find_67
      · refine lv_aload_n hx hb dX2_find_12 rfl (lv_at hl 1 rfl) ?_
        refine va_get (D := D) (ci := 2) (v := .ref (a 1)) (C := RX2) (T := TX2) (N := 7) hx hb hts (fun _ h => List.mem_cons_of_mem _ (List.mem_append_right _ h)) hown hK.1 hP 0 rfl rfl 0 (by decide) (hts (.fieldLink RX2 9 "RevisionStores$Tree" "documents" "[I") (List.mem_of_getElem? (i := 2) rfl)) (fun _ h9 => h9) rfl dX2_find_13 ?_
        refine lv_iload hx hb dX2_find_16 (lv_at hl 0 rfl) ?_
        refine r_iald (j := k) (v := nI (dc k)) hx hb hK.1 hP 1 0 rfl rfl (by omega) (by first | decide | omega) rfl dX2_find_18 ?_
        have f18 := hTd k
        refine lv_iload_n hx hb dX2_find_19 rfl (lv_at hl 2 rfl) ?_
        refine r_icmp_neN hx hb (x := dc k) (y := d) (by first | omega | decide) (by first | omega | decide) (tgt := 60) dX2_find_20 (by decide) (fun c20 => ?_) (fun c20 => ?_)
        · refine lv_iinc (v := nI (k + 1)) (lv' := [(5, .int (nI (k + 1))), (0, .ref (a 0)), (1, .int (nI d)), (2, .int (eP o)), (3, .int v), (4, .int (bI b))]) hx hb dX2_find_60 hl (k := 0) rfl (nI_1 _) (by decide) rfl (fun ls hl => ?_)
          refine lv_goto (tgt := 3) hx hb dX2_find_63 (by decide) ?_
          exact ih3 (k + 1) (by first | assumption | omega) (ffd_no hno (by simp [fnd, c9, c20])) (by omega)  ls  (lv_sub hl [0, 1, 2, 3, 4, 5] rfl)
        · refine lv_aload_n hx hb dX2_find_23 rfl (lv_at hl 1 rfl) ?_
          refine va_get (D := D) (ci := 2) (v := .ref (a 2)) (C := RX2) (T := TX2) (N := 7) hx hb hts (fun _ h => List.mem_cons_of_mem _ (List.mem_append_right _ h)) hown hK.1 hP 0 rfl rfl 1 (by decide) (hts (.fieldLink RX2 15 "RevisionStores$Tree" "parents" "[I") (List.mem_of_getElem? (i := 3) rfl)) (fun _ h9 => h9) rfl dX2_find_24 ?_
          refine lv_iload hx hb dX2_find_27 (lv_at hl 0 rfl) ?_
          refine r_iald (j := k) (v := eP (pa k)) hx hb hK.1 hP 2 0 rfl rfl (by omega) (by first | decide | omega) rfl dX2_find_29 ?_
          refine lv_iload_n hx hb dX2_find_30 rfl (lv_at hl 3 rfl) ?_
          refine lv_icmp_ne (x := eP (pa k)) (y := eP o) (tgt := 60) hx hb dX2_find_31 (by decide) (fun c31 => ?_) (fun c31 => ?_)
          · refine lv_iinc (v := nI (k + 1)) (lv' := [(5, .int (nI (k + 1))), (0, .ref (a 0)), (1, .int (nI d)), (2, .int (eP o)), (3, .int v), (4, .int (bI b))]) hx hb dX2_find_60 hl (k := 0) rfl (nI_1 _) (by decide) rfl (fun ls hl => ?_)
            refine lv_goto (tgt := 3) hx hb dX2_find_63 (by decide) ?_
            exact ih3 (k + 1) (by first | assumption | omega) (ffd_no hno (by simp [fnd, c9, c20, c31])) (by omega)  ls  (lv_sub hl [0, 1, 2, 3, 4, 5] rfl)
          · refine lv_aload_n hx hb dX2_find_34 rfl (lv_at hl 1 rfl) ?_
            refine va_get (D := D) (ci := 2) (v := .ref (a 3)) (C := RX2) (T := TX2) (N := 7) hx hb hts (fun _ h => List.mem_cons_of_mem _ (List.mem_append_right _ h)) hown hK.1 hP 0 rfl rfl 2 (by decide) (hts (.fieldLink RX2 18 "RevisionStores$Tree" "values" "[I") (List.mem_of_getElem? (i := 4) rfl)) (fun _ h9 => h9) rfl dX2_find_35 ?_
            refine lv_iload hx hb dX2_find_38 (lv_at hl 0 rfl) ?_
            refine r_iald (j := k) (v := va k) hx hb hK.1 hP 3 0 rfl rfl (by omega) (by first | decide | omega) rfl dX2_find_40 ?_
            refine lv_iload_n hx hb dX2_find_41 rfl (lv_at hl 4 rfl) ?_
            refine lv_icmp_ne (x := va k) (y := v) (tgt := 60) hx hb dX2_find_42 (by decide) (fun c42 => ?_) (fun c42 => ?_)
            · refine lv_iinc (v := nI (k + 1)) (lv' := [(5, .int (nI (k + 1))), (0, .ref (a 0)), (1, .int (nI d)), (2, .int (eP o)), (3, .int v), (4, .int (bI b))]) hx hb dX2_find_60 hl (k := 0) rfl (nI_1 _) (by decide) rfl (fun ls hl => ?_)
              refine lv_goto (tgt := 3) hx hb dX2_find_63 (by decide) ?_
              exact ih3 (k + 1) (by first | assumption | omega) (ffd_no hno (by simp [fnd, c9, c20, c31, c42])) (by omega)  ls  (lv_sub hl [0, 1, 2, 3, 4, 5] rfl)
            · refine lv_aload_n hx hb dX2_find_45 rfl (lv_at hl 1 rfl) ?_
              refine va_get (D := D) (ci := 2) (v := .ref (a 4)) (C := RX2) (T := TX2) (N := 7) hx hb hts (fun _ h => List.mem_cons_of_mem _ (List.mem_append_right _ h)) hown hK.1 hP 0 rfl rfl 3 (by decide) (hts (.fieldLink RX2 21 "RevisionStores$Tree" "deletions" "[Z") (List.mem_of_getElem? (i := 5) rfl)) (fun _ h9 => h9) rfl dX2_find_46 ?_
              refine lv_iload hx hb dX2_find_49 (lv_at hl 0 rfl) ?_
              refine r_zald (j := k) (v := bI (dl k)) hx hb hK.1 hP 4 1 rfl rfl (by omega) (by first | decide | omega) rfl dX2_find_51 ?_
              refine lv_iload hx hb dX2_find_52 (lv_at hl 5 rfl) ?_
              refine r_icmp_neB (x := dl k) (y := b) (tgt := 60) hx hb dX2_find_54 (by decide) (fun c54 => ?_) (fun c54 => ?_)
              · refine lv_iinc (v := nI (k + 1)) (lv' := [(5, .int (nI (k + 1))), (0, .ref (a 0)), (1, .int (nI d)), (2, .int (eP o)), (3, .int v), (4, .int (bI b))]) hx hb dX2_find_60 hl (k := 0) rfl (nI_1 _) (by decide) rfl (fun ls hl => ?_)
                refine lv_goto (tgt := 3) hx hb dX2_find_63 (by decide) ?_
                exact ih3 (k + 1) (by first | assumption | omega) (ffd_no hno (by simp [fnd, c9, c20, c31, c42, c54])) (by omega)  ls  (lv_sub hl [0, 1, 2, 3, 4, 5] rfl)
              · refine lv_iload hx hb dX2_find_57 (lv_at hl 0 rfl) ?_
                refine r_top (y := eP (ffd (fnd dc pa va dl d o v b) n)) (congrArg eP (show some k = (ffd (fnd dc pa va dl d o v b) n) from by first | exact (ffd_hit (n := n) hno (by simp [fnd, c9, c20, c31, c42, c54]) (by omega)).symm | (rw [show n = k by omega, hno]))) ?_
                exact W.iret hx hb hr (fun t ht hW => ⟨_, rfl, rfl, ht⟩) (fun _ h => by cases h) dX2_find_59
  exact key3 ((n - 0) + 1) 0 (by first | assumption | omega) (rfl) (Nat.lt_succ_self _)  ls  (lv_sub hl [0, 1, 2, 3, 4, 5] rfl)
set_option maxHeartbeats 8000000 in
set_option maxRecDepth 100000 in
theorem cX2_isBetter_ok (l : Launch) (D : va_G) (ct : Nat → ClassId) (a : Nat → Nat) (n : Nat) (dc : Nat → Nat) (pa : Nat → Option Nat) (va : Nat → Int32) (dl : Nat → Bool) (ge : Nat → Nat) (su : Nat → Int32) (i : Nat) (j : Nat) (hTg : ∀ k, ge k ≤ 150) (hi : i < 150) (hj : j < 150) : Met l yX2_isBetter wsX2_isBetter ({ frames := 0, cells := 0, slots := 0, locals := 0 } : Room) (roPc D ct [.ref (a 0), .int (nI i), .int (nI j)] (wT ct a n dc pa va dl ge su)) (rqI (bI (btr dl ge su i j))) 0 0 (fun _ => False) := by
  refine Met.ofW (cc := cX2_isBetter) (maxL := 3) (ret := (some .boolean)) (by decide) rfl ?_
  intro p e s m args below meth c s₁ B hml hv
  obtain ⟨rfl, hP, hK⟩ := hv
  have hx := B.exec
  have hb := B.bytes
  have hr := B.returns
  have hts := atoms_spec (ws := wsX2_isBetter) B.pre
  have hown : s.vm.findClass RX2 = some m.cls := findClass_of_methodNamed B.named
  have hlocks := B.notSynchronized
  have hl := lv_entry ([.ref (a 0), .int (nI i), .int (nI j)]) (n := 3) (Nat.le_of_ble_eq_true rfl)
  rw [lg_entry_eq]
  generalize (lg_sl ([.ref (a 0), .int (nI i), .int (nI j)]) ++ List.replicate (3 - (lg_sl ([.ref (a 0), .int (nI i), .int (nI j)])).length) Slot.unset).toArray = ls at hl ⊢
  have hl : lv_has ls 3 [(0, .ref (a 0)), (1, .int (nI i)), (2, .int (nI j))] := hl
  refine lv_aload_n hx hb dX2_isBetter_0 rfl (lv_at hl 0 rfl) ?_
  refine va_get (D := D) (ci := 2) (v := .ref (a 4)) (C := RX2) (T := TX2) (N := 7) hx hb hts (fun _ h => List.mem_cons_of_mem _ (List.mem_append_right _ h)) hown hK.1 hP 0 rfl rfl 3 (by decide) (hts (.fieldLink RX2 21 "RevisionStores$Tree" "deletions" "[Z") (List.mem_of_getElem? (i := 1) rfl)) (fun _ h9 => h9) rfl dX2_isBetter_1 ?_
  refine lv_iload_n hx hb dX2_isBetter_4 rfl (lv_at hl 1 rfl) ?_
  refine r_zald (j := i) (v := bI (dl i)) hx hb hK.1 hP 4 1 rfl rfl (by omega) (by first | decide | omega) rfl dX2_isBetter_5 ?_
  refine lv_aload_n hx hb dX2_isBetter_6 rfl (lv_at hl 0 rfl) ?_
  refine va_get (D := D) (ci := 2) (v := .ref (a 4)) (C := RX2) (T := TX2) (N := 7) hx hb hts (fun _ h => List.mem_cons_of_mem _ (List.mem_append_right _ h)) hown hK.1 hP 0 rfl rfl 3 (by decide) (hts (.fieldLink RX2 21 "RevisionStores$Tree" "deletions" "[Z") (List.mem_of_getElem? (i := 1) rfl)) (fun _ h9 => h9) rfl dX2_isBetter_7 ?_
  refine lv_iload_n hx hb dX2_isBetter_10 rfl (lv_at hl 2 rfl) ?_
  refine r_zald (j := j) (v := bI (dl j)) hx hb hK.1 hP 4 1 rfl rfl (by omega) (by first | decide | omega) rfl dX2_isBetter_11 ?_
  refine r_icmp_eqB (x := dl i) (y := dl j) (tgt := 22) hx hb dX2_isBetter_12 (by decide) (fun c12 => ?_) (fun c12 => ?_)
  · refine lv_aload_n hx hb dX2_isBetter_22 rfl (lv_at hl 0 rfl) ?_
    refine va_get (D := D) (ci := 2) (v := .ref (a 5)) (C := RX2) (T := TX2) (N := 7) hx hb hts (fun _ h => List.mem_cons_of_mem _ (List.mem_append_right _ h)) hown hK.1 hP 0 rfl rfl 4 (by decide) (hts (.fieldLink RX2 25 "RevisionStores$Tree" "generations" "[I") (List.mem_of_getElem? (i := 2) rfl)) (fun _ h9 => h9) rfl dX2_isBetter_23 ?_
    refine lv_iload_n hx hb dX2_isBetter_26 rfl (lv_at hl 1 rfl) ?_
    refine r_iald (j := i) (v := nI (ge i)) hx hb hK.1 hP 5 0 rfl rfl (by omega) (by first | decide | omega) rfl dX2_isBetter_27 ?_
    have f27 := hTg i
    refine lv_aload_n hx hb dX2_isBetter_28 rfl (lv_at hl 0 rfl) ?_
    refine va_get (D := D) (ci := 2) (v := .ref (a 5)) (C := RX2) (T := TX2) (N := 7) hx hb hts (fun _ h => List.mem_cons_of_mem _ (List.mem_append_right _ h)) hown hK.1 hP 0 rfl rfl 4 (by decide) (hts (.fieldLink RX2 25 "RevisionStores$Tree" "generations" "[I") (List.mem_of_getElem? (i := 2) rfl)) (fun _ h9 => h9) rfl dX2_isBetter_29 ?_
    refine lv_iload_n hx hb dX2_isBetter_32 rfl (lv_at hl 2 rfl) ?_
    refine r_iald (j := j) (v := nI (ge j)) hx hb hK.1 hP 5 0 rfl rfl (by omega) (by first | decide | omega) rfl dX2_isBetter_33 ?_
    have f33 := hTg j
    refine r_icmp_eqN hx hb (x := ge i) (y := ge j) (by first | omega | decide) (by first | omega | decide) (tgt := 58) dX2_isBetter_34 (by decide) (fun c34 => ?_) (fun c34 => ?_)
    · refine lv_aload_n hx hb dX2_isBetter_58 rfl (lv_at hl 0 rfl) ?_
      refine va_get (D := D) (ci := 2) (v := .ref (a 6)) (C := RX2) (T := TX2) (N := 7) hx hb hts (fun _ h => List.mem_cons_of_mem _ (List.mem_append_right _ h)) hown hK.1 hP 0 rfl rfl 5 (by decide) (hts (.fieldLink RX2 28 "RevisionStores$Tree" "sums" "[I") (List.mem_of_getElem? (i := 3) rfl)) (fun _ h9 => h9) rfl dX2_isBetter_59 ?_
      refine lv_iload_n hx hb dX2_isBetter_62 rfl (lv_at hl 1 rfl) ?_
      refine r_iald (j := i) (v := su i) hx hb hK.1 hP 6 0 rfl rfl (by omega) (by first | decide | omega) rfl dX2_isBetter_63 ?_
      refine lv_aload_n hx hb dX2_isBetter_64 rfl (lv_at hl 0 rfl) ?_
      refine va_get (D := D) (ci := 2) (v := .ref (a 6)) (C := RX2) (T := TX2) (N := 7) hx hb hts (fun _ h => List.mem_cons_of_mem _ (List.mem_append_right _ h)) hown hK.1 hP 0 rfl rfl 5 (by decide) (hts (.fieldLink RX2 28 "RevisionStores$Tree" "sums" "[I") (List.mem_of_getElem? (i := 3) rfl)) (fun _ h9 => h9) rfl dX2_isBetter_65 ?_
      refine lv_iload_n hx hb dX2_isBetter_68 rfl (lv_at hl 2 rfl) ?_
      refine r_iald (j := j) (v := su j) hx hb hK.1 hP 6 0 rfl rfl (by omega) (by first | decide | omega) rfl dX2_isBetter_69 ?_
      refine lv_icmp_eq (x := su i) (y := su j) (tgt := 94) hx hb dX2_isBetter_70 (by decide) (fun c70 => ?_) (fun c70 => ?_)
      · refine lv_iload_n hx hb dX2_isBetter_94 rfl (lv_at hl 1 rfl) ?_
        refine lv_iload_n hx hb dX2_isBetter_95 rfl (lv_at hl 2 rfl) ?_
        refine r_icmp_geN hx hb (x := i) (y := j) (by first | omega | decide) (by first | omega | decide) (tgt := 103) dX2_isBetter_96 (by decide) (fun c96 => ?_) (fun c96 => ?_)
        · refine lv_iconst (v := nI 0) hx hb dX2_isBetter_103 (by decide) ?_
          refine r_top (y := bI (btr dl ge su i j)) (congrArg bI (show false = (btr dl ge su i j) from by simp [btr, bI, c12, c34, c70, c96])) ?_
          exact W.zret hx hb hr (bI_narrow _) (fun t ht hW => ⟨_, rfl, rfl, ht⟩) (fun _ h => by cases h) dX2_isBetter_104
        · refine lv_iconst (v := nI 1) hx hb dX2_isBetter_99 (by decide) ?_
          refine lv_goto (tgt := 104) hx hb dX2_isBetter_100 (by decide) ?_
          refine r_top (y := bI (btr dl ge su i j)) (congrArg bI (show true = (btr dl ge su i j) from by simp [btr, bI, c12, c34, c70, c96])) ?_
          exact W.zret hx hb hr (bI_narrow _) (fun t ht hW => ⟨_, rfl, rfl, ht⟩) (fun _ h => by cases h) dX2_isBetter_104
      · refine lv_aload_n hx hb dX2_isBetter_73 rfl (lv_at hl 0 rfl) ?_
        refine va_get (D := D) (ci := 2) (v := .ref (a 6)) (C := RX2) (T := TX2) (N := 7) hx hb hts (fun _ h => List.mem_cons_of_mem _ (List.mem_append_right _ h)) hown hK.1 hP 0 rfl rfl 5 (by decide) (hts (.fieldLink RX2 28 "RevisionStores$Tree" "sums" "[I") (List.mem_of_getElem? (i := 3) rfl)) (fun _ h9 => h9) rfl dX2_isBetter_74 ?_
        refine lv_iload_n hx hb dX2_isBetter_77 rfl (lv_at hl 1 rfl) ?_
        refine r_iald (j := i) (v := su i) hx hb hK.1 hP 6 0 rfl rfl (by omega) (by first | decide | omega) rfl dX2_isBetter_78 ?_
        refine lv_aload_n hx hb dX2_isBetter_79 rfl (lv_at hl 0 rfl) ?_
        refine va_get (D := D) (ci := 2) (v := .ref (a 6)) (C := RX2) (T := TX2) (N := 7) hx hb hts (fun _ h => List.mem_cons_of_mem _ (List.mem_append_right _ h)) hown hK.1 hP 0 rfl rfl 5 (by decide) (hts (.fieldLink RX2 28 "RevisionStores$Tree" "sums" "[I") (List.mem_of_getElem? (i := 3) rfl)) (fun _ h9 => h9) rfl dX2_isBetter_80 ?_
        refine lv_iload_n hx hb dX2_isBetter_83 rfl (lv_at hl 2 rfl) ?_
        refine r_iald (j := j) (v := su j) hx hb hK.1 hP 6 0 rfl rfl (by omega) (by first | decide | omega) rfl dX2_isBetter_84 ?_
        refine lv_icmp_le (x := su i) (y := su j) (tgt := 92) hx hb dX2_isBetter_85 (by decide) (fun c85 => ?_) (fun c85 => ?_)
        · refine lv_iconst (v := nI 0) hx hb dX2_isBetter_92 (by decide) ?_
          refine r_top (y := bI (btr dl ge su i j)) (congrArg bI (show false = (btr dl ge su i j) from by simp [btr, bI, c12, c34, c70, c85])) ?_
          exact W.zret hx hb hr (bI_narrow _) (fun t ht hW => ⟨_, rfl, rfl, ht⟩) (fun _ h => by cases h) dX2_isBetter_93
        · refine lv_iconst (v := nI 1) hx hb dX2_isBetter_88 (by decide) ?_
          refine lv_goto (tgt := 93) hx hb dX2_isBetter_89 (by decide) ?_
          refine r_top (y := bI (btr dl ge su i j)) (congrArg bI (show true = (btr dl ge su i j) from by simp [btr, bI, c12, c34, c70, c85])) ?_
          exact W.zret hx hb hr (bI_narrow _) (fun t ht hW => ⟨_, rfl, rfl, ht⟩) (fun _ h => by cases h) dX2_isBetter_93
    · refine lv_aload_n hx hb dX2_isBetter_37 rfl (lv_at hl 0 rfl) ?_
      refine va_get (D := D) (ci := 2) (v := .ref (a 5)) (C := RX2) (T := TX2) (N := 7) hx hb hts (fun _ h => List.mem_cons_of_mem _ (List.mem_append_right _ h)) hown hK.1 hP 0 rfl rfl 4 (by decide) (hts (.fieldLink RX2 25 "RevisionStores$Tree" "generations" "[I") (List.mem_of_getElem? (i := 2) rfl)) (fun _ h9 => h9) rfl dX2_isBetter_38 ?_
      refine lv_iload_n hx hb dX2_isBetter_41 rfl (lv_at hl 1 rfl) ?_
      refine r_iald (j := i) (v := nI (ge i)) hx hb hK.1 hP 5 0 rfl rfl (by omega) (by first | decide | omega) rfl dX2_isBetter_42 ?_
      have f42 := hTg i
      refine lv_aload_n hx hb dX2_isBetter_43 rfl (lv_at hl 0 rfl) ?_
      refine va_get (D := D) (ci := 2) (v := .ref (a 5)) (C := RX2) (T := TX2) (N := 7) hx hb hts (fun _ h => List.mem_cons_of_mem _ (List.mem_append_right _ h)) hown hK.1 hP 0 rfl rfl 4 (by decide) (hts (.fieldLink RX2 25 "RevisionStores$Tree" "generations" "[I") (List.mem_of_getElem? (i := 2) rfl)) (fun _ h9 => h9) rfl dX2_isBetter_44 ?_
      refine lv_iload_n hx hb dX2_isBetter_47 rfl (lv_at hl 2 rfl) ?_
      refine r_iald (j := j) (v := nI (ge j)) hx hb hK.1 hP 5 0 rfl rfl (by omega) (by first | decide | omega) rfl dX2_isBetter_48 ?_
      have f48 := hTg j
      refine r_icmp_leN hx hb (x := ge i) (y := ge j) (by first | omega | decide) (by first | omega | decide) (tgt := 56) dX2_isBetter_49 (by decide) (fun c49 => ?_) (fun c49 => ?_)
      · refine lv_iconst (v := nI 0) hx hb dX2_isBetter_56 (by decide) ?_
        refine r_top (y := bI (btr dl ge su i j)) (congrArg bI (show false = (btr dl ge su i j) from by simp [btr, bI, c12, c34, c49])) ?_
        exact W.zret hx hb hr (bI_narrow _) (fun t ht hW => ⟨_, rfl, rfl, ht⟩) (fun _ h => by cases h) dX2_isBetter_57
      · refine lv_iconst (v := nI 1) hx hb dX2_isBetter_52 (by decide) ?_
        refine lv_goto (tgt := 57) hx hb dX2_isBetter_53 (by decide) ?_
        refine r_top (y := bI (btr dl ge su i j)) (congrArg bI (show true = (btr dl ge su i j) from by simp [btr, bI, c12, c34, c49])) ?_
        exact W.zret hx hb hr (bI_narrow _) (fun t ht hW => ⟨_, rfl, rfl, ht⟩) (fun _ h => by cases h) dX2_isBetter_57
  · refine lv_aload_n hx hb dX2_isBetter_15 rfl (lv_at hl 0 rfl) ?_
    refine va_get (D := D) (ci := 2) (v := .ref (a 4)) (C := RX2) (T := TX2) (N := 7) hx hb hts (fun _ h => List.mem_cons_of_mem _ (List.mem_append_right _ h)) hown hK.1 hP 0 rfl rfl 3 (by decide) (hts (.fieldLink RX2 21 "RevisionStores$Tree" "deletions" "[Z") (List.mem_of_getElem? (i := 1) rfl)) (fun _ h9 => h9) rfl dX2_isBetter_16 ?_
    refine lv_iload_n hx hb dX2_isBetter_19 rfl (lv_at hl 2 rfl) ?_
    refine r_zald (j := j) (v := bI (dl j)) hx hb hK.1 hP 4 1 rfl rfl (by omega) (by first | decide | omega) rfl dX2_isBetter_20 ?_
    refine r_top (y := bI (btr dl ge su i j)) (congrArg bI (show (dl j) = (btr dl ge su i j) from by simp [btr, bI, c12])) ?_
    exact W.zret hx hb hr (bI_narrow _) (fun t ht hW => ⟨_, rfl, rfl, ht⟩) (fun _ h => by cases h) dX2_isBetter_21
set_option maxHeartbeats 8000000 in
set_option maxRecDepth 100000 in
theorem cX2_make_ok (l : Launch) (D : va_G) (ct : Nat → ClassId) (a : Nat → Nat) (n : Nat) (dc : Nat → Nat) (pa : Nat → Option Nat) (va : Nat → Int32) (dl : Nat → Bool) (ge : Nat → Nat) (su : Nat → Int32) (d : Nat) (o : Option Nat) (v : Int32) (b : Bool) (hn : n < 150) (hTg : ∀ k, ge k ≤ 150) (ho : ∀ j, o = some j → j < n) (sz : Nat) : Met l yX2_make wsX2_make ({ frames := 0, cells := 0, slots := 0, locals := 0 } : Room) (wrPc D ct [.ref (a 0), .int (nI d), .int (eP o), .int v, .int (bI b)] (wT ct a n dc pa va dl ge su) sz) (wqI D (nI n) (wT ct a (n + 1) (va_up dc n d) (va_up pa n o) (va_up va n v) (va_up dl n b) (va_up ge n (mkg ge o)) (va_up su n (mksu ge su o v b))) (va_A (wT ct a n dc pa va dl ge su) sz)) 0 0 (va_A (wT ct a n dc pa va dl ge su) sz) := by
  refine Met.ofW (cc := cX2_make) (maxL := 8) (ret := (some .int)) (by decide) rfl ?_
  intro p e s m args below meth c s₁ B hml hv
  obtain ⟨rfl, hsz, hP, hK, hD0⟩ := hv
  have hx := B.exec
  have hb := B.bytes
  have hr := B.returns
  have hts := atoms_spec (ws := wsX2_make) B.pre
  have hown : s.vm.findClass RX2 = some m.cls := findClass_of_methodNamed B.named
  have hlocks := B.notSynchronized
  subst hsz
  have hD := hD0.self (sz := s.heap.size)
  generalize hAe : va_A (wT ct a n dc pa va dl ge su) s.heap.size = A at hD ⊢
  have hA : ∀ q : Nat, s.heap.size ≤ q → A q := fun q h => by rw [← hAe]; exact Or.inr h
  have hS : va_S A s.heap s.heap [] := va_S.rf
  have hP : va_P D vwCl (wT ct a n dc pa va dl ge su) s.heap := hP
  clear hAe hD0
  have hl := lv_entry ([.ref (a 0), .int (nI d), .int (eP o), .int v, .int (bI b)]) (n := 8) (Nat.le_of_ble_eq_true rfl)
  rw [lg_entry_eq]
  generalize (lg_sl ([.ref (a 0), .int (nI d), .int (eP o), .int v, .int (bI b)]) ++ List.replicate (8 - (lg_sl ([.ref (a 0), .int (nI d), .int (eP o), .int v, .int (bI b)])).length) Slot.unset).toArray = ls at hl ⊢
  have hl : lv_has ls 8 [(0, .ref (a 0)), (1, .int (nI d)), (2, .int (eP o)), (3, .int v), (4, .int (bI b))] := hl
  have hH0 : s.heap.size ≤ s.heap.size := Nat.le_refl _
  refine lv_aload_n hx hb dX2_make_0 rfl (lv_at hl 0 rfl) ?_
  refine va_get (D := D) (ci := 2) (v := .int (nI n)) (C := RX2) (T := TX2) (N := 7) hx hb hts (fun _ h => List.mem_cons_of_mem _ (List.mem_append_right _ h)) hown hK.1 hP 0 rfl rfl 6 (by decide) (hts (.fieldLink RX2 31 "RevisionStores$Tree" "made" "I") (List.mem_of_getElem? (i := 1) rfl)) (fun _ h9 => h9) rfl dX2_make_1 ?_
  refine lv_istore (lv' := [(5, .int (nI n)), (0, .ref (a 0)), (1, .int (nI d)), (2, .int (eP o)), (3, .int v), (4, .int (bI b))]) hx hb dX2_make_4 hl (by decide) rfl (fun ls hl => ?_)
  refine lv_iload_n hx hb dX2_make_6 rfl (lv_at hl 3 rfl) ?_
  refine lv_iconst (v := -1) hx hb dX2_make_7 (by decide) ?_
  refine r_icmp_neP hx hb (x := o) (by intro j9 h9; have := ho _ h9; omega) (tgt := 15) dX2_make_8 (by decide) (fun j8 c8 => ?_) (fun c8 => ?_)
  · have hl := lv_re (f := fun z9 => [(5, .int (nI n)), (0, .ref (a 0)), (1, .int (nI d)), (2, .int z9), (3, .int v), (4, .int (bI b))]) hl (show eP o = nI j8 from congrArg eP c8)
    have e15 := ho _ c8
    refine lv_aload_n hx hb dX2_make_15 rfl (lv_at hl 1 rfl) ?_
    refine va_get (D := D) (ci := 2) (v := .ref (a 5)) (C := RX2) (T := TX2) (N := 7) hx hb hts (fun _ h => List.mem_cons_of_mem _ (List.mem_append_right _ h)) hown hK.1 hP 0 rfl rfl 4 (by decide) (hts (.fieldLink RX2 25 "RevisionStores$Tree" "generations" "[I") (List.mem_of_getElem? (i := 2) rfl)) (fun _ h9 => h9) rfl dX2_make_16 ?_
    refine lv_iload_n hx hb dX2_make_19 rfl (lv_at hl 3 rfl) ?_
    refine r_iald (j := j8) (v := nI (ge j8)) hx hb hK.1 hP 5 0 rfl rfl (by omega) (by first | decide | omega) rfl dX2_make_20 ?_
    have f20 := hTg j8
    refine lv_iconst (v := nI 1) hx hb dX2_make_21 (by decide) ?_
    refine r_iaddN hx hb dX2_make_22 ?_
    refine lv_istore (lv' := [(6, .int (nI ((ge j8) + 1))), (5, .int (nI n)), (0, .ref (a 0)), (1, .int (nI d)), (2, .int (nI j8)), (3, .int v), (4, .int (bI b))]) hx hb dX2_make_23 hl (by decide) rfl (fun ls hl => ?_)
    refine lv_iload_n hx hb dX2_make_25 rfl (lv_at hl 4 rfl) ?_
    refine lv_iconst (v := -1) hx hb dX2_make_26 (by decide) ?_
    refine r_icmp_neN1 hx hb (x := j8) (by first | omega | decide) (tgt := 35) dX2_make_27 (by decide) ?_
    refine lv_bipush (v := nI 31) hx hb dX2_make_35 (by decide) ?_
    refine lv_aload_n hx hb dX2_make_37 rfl (lv_at hl 2 rfl) ?_
    refine va_get (D := D) (ci := 2) (v := .ref (a 6)) (C := RX2) (T := TX2) (N := 7) hx hb hts (fun _ h => List.mem_cons_of_mem _ (List.mem_append_right _ h)) hown hK.1 hP 0 rfl rfl 5 (by decide) (hts (.fieldLink RX2 28 "RevisionStores$Tree" "sums" "[I") (List.mem_of_getElem? (i := 3) rfl)) (fun _ h9 => h9) rfl dX2_make_38 ?_
    refine lv_iload_n hx hb dX2_make_41 rfl (lv_at hl 4 rfl) ?_
    refine r_iald (j := j8) (v := su j8) hx hb hK.1 hP 6 0 rfl rfl (by omega) (by first | decide | omega) rfl dX2_make_42 ?_
    refine lv_imul hx hb dX2_make_43 ?_
    refine lv_istore (lv' := [(7, .int ((nI 31) * (su j8))), (6, .int (nI ((ge j8) + 1))), (5, .int (nI n)), (0, .ref (a 0)), (1, .int (nI d)), (2, .int (nI j8)), (3, .int v), (4, .int (bI b))]) hx hb dX2_make_44 hl (by decide) rfl (fun ls hl => ?_)
    refine lv_aload_n hx hb dX2_make_46 rfl (lv_at hl 3 rfl) ?_
    refine va_get (D := D) (ci := 2) (v := .ref (a 1)) (C := RX2) (T := TX2) (N := 7) hx hb hts (fun _ h => List.mem_cons_of_mem _ (List.mem_append_right _ h)) hown hK.1 hP 0 rfl rfl 0 (by decide) (hts (.fieldLink RX2 9 "RevisionStores$Tree" "documents" "[I") (List.mem_of_getElem? (i := 4) rfl)) (fun _ h9 => h9) rfl dX2_make_47 ?_
    refine lv_iload hx hb dX2_make_50 (lv_at hl 2 rfl) ?_
    refine lv_iload_n hx hb dX2_make_52 rfl (lv_at hl 4 rfl) ?_
    refine r_iast (j := n) (x := (nI d)) (f' := fun q9 => nI ((va_up dc n d) q9)) hx hb hK.1 hP hD hS 1 0 rfl rfl (by omega) (by first | decide | omega) (up_n _ _ _) dX2_make_53 (fun H locs hP hD hS => ?_)
    have hP : va_P D vwCl (wT ct a n (va_up dc n d) pa va dl ge su) H := hP
    have hD : va_D A (wT ct a n (va_up dc n d) pa va dl ge su) := hD
    refine lv_aload_n hx hb dX2_make_54 rfl (lv_at hl 3 rfl) ?_
    refine va_get (D := D) (ci := 2) (v := .ref (a 2)) (C := RX2) (T := TX2) (N := 7) hx hb hts (fun _ h => List.mem_cons_of_mem _ (List.mem_append_right _ h)) hown hK.1 hP 0 rfl rfl 1 (by decide) (hts (.fieldLink RX2 15 "RevisionStores$Tree" "parents" "[I") (List.mem_of_getElem? (i := 5) rfl)) (fun _ h9 => h9) rfl dX2_make_55 ?_
    refine lv_iload hx hb dX2_make_58 (lv_at hl 2 rfl) ?_
    refine lv_iload_n hx hb dX2_make_60 rfl (lv_at hl 5 rfl) ?_
    refine r_iast (j := n) (x := (eP (some j8))) (f' := fun q9 => eP ((va_up pa n (some j8)) q9)) hx hb hK.1 hP hD hS 2 0 rfl rfl (by omega) (by first | decide | omega) (up_p _ _ _) dX2_make_61 (fun H locs hP hD hS => ?_)
    have hP : va_P D vwCl (wT ct a n (va_up dc n d) (va_up pa n (some j8)) va dl ge su) H := hP
    have hD : va_D A (wT ct a n (va_up dc n d) (va_up pa n (some j8)) va dl ge su) := hD
    refine lv_aload_n hx hb dX2_make_62 rfl (lv_at hl 3 rfl) ?_
    refine va_get (D := D) (ci := 2) (v := .ref (a 3)) (C := RX2) (T := TX2) (N := 7) hx hb hts (fun _ h => List.mem_cons_of_mem _ (List.mem_append_right _ h)) hown hK.1 hP 0 rfl rfl 2 (by decide) (hts (.fieldLink RX2 18 "RevisionStores$Tree" "values" "[I") (List.mem_of_getElem? (i := 6) rfl)) (fun _ h9 => h9) rfl dX2_make_63 ?_
    refine lv_iload hx hb dX2_make_66 (lv_at hl 2 rfl) ?_
    refine lv_iload_n hx hb dX2_make_68 rfl (lv_at hl 6 rfl) ?_
    refine r_iast (j := n) (x := v) (f' := va_up va n v) hx hb hK.1 hP hD hS 3 0 rfl rfl (by omega) (by first | decide | omega) (up_i _ _ _) dX2_make_69 (fun H locs hP hD hS => ?_)
    have hP : va_P D vwCl (wT ct a n (va_up dc n d) (va_up pa n (some j8)) (va_up va n v) dl ge su) H := hP
    have hD : va_D A (wT ct a n (va_up dc n d) (va_up pa n (some j8)) (va_up va n v) dl ge su) := hD
    refine lv_aload_n hx hb dX2_make_70 rfl (lv_at hl 3 rfl) ?_
    refine va_get (D := D) (ci := 2) (v := .ref (a 4)) (C := RX2) (T := TX2) (N := 7) hx hb hts (fun _ h => List.mem_cons_of_mem _ (List.mem_append_right _ h)) hown hK.1 hP 0 rfl rfl 3 (by decide) (hts (.fieldLink RX2 21 "RevisionStores$Tree" "deletions" "[Z") (List.mem_of_getElem? (i := 7) rfl)) (fun _ h9 => h9) rfl dX2_make_71 ?_
    refine lv_iload hx hb dX2_make_74 (lv_at hl 2 rfl) ?_
    refine lv_iload hx hb dX2_make_76 (lv_at hl 7 rfl) ?_
    refine r_zast (j := n) (x := b) (f' := fun q9 => bI ((va_up dl n b) q9)) hx hb hK.1 hP hD hS 4 1 rfl rfl (by omega) (by first | decide | omega) (up_b _ _ _) dX2_make_78 (fun H locs hP hD hS => ?_)
    have hP : va_P D vwCl (wT ct a n (va_up dc n d) (va_up pa n (some j8)) (va_up va n v) (va_up dl n b) ge su) H := hP
    have hD : va_D A (wT ct a n (va_up dc n d) (va_up pa n (some j8)) (va_up va n v) (va_up dl n b) ge su) := hD
    refine lv_aload_n hx hb dX2_make_79 rfl (lv_at hl 3 rfl) ?_
    refine va_get (D := D) (ci := 2) (v := .ref (a 5)) (C := RX2) (T := TX2) (N := 7) hx hb hts (fun _ h => List.mem_cons_of_mem _ (List.mem_append_right _ h)) hown hK.1 hP 0 rfl rfl 4 (by decide) (hts (.fieldLink RX2 25 "RevisionStores$Tree" "generations" "[I") (List.mem_of_getElem? (i := 2) rfl)) (fun _ h9 => h9) rfl dX2_make_80 ?_
    refine lv_iload hx hb dX2_make_83 (lv_at hl 2 rfl) ?_
    refine lv_iload hx hb dX2_make_85 (lv_at hl 1 rfl) ?_
    refine r_iast (j := n) (x := (nI ((ge j8) + 1))) (f' := fun q9 => nI ((va_up ge n ((ge j8) + 1)) q9)) hx hb hK.1 hP hD hS 5 0 rfl rfl (by omega) (by first | decide | omega) (up_n _ _ _) dX2_make_87 (fun H locs hP hD hS => ?_)
    have hP : va_P D vwCl (wT ct a n (va_up dc n d) (va_up pa n (some j8)) (va_up va n v) (va_up dl n b) (va_up ge n ((ge j8) + 1)) su) H := hP
    have hD : va_D A (wT ct a n (va_up dc n d) (va_up pa n (some j8)) (va_up va n v) (va_up dl n b) (va_up ge n ((ge j8) + 1)) su) := hD
    refine lv_aload_n hx hb dX2_make_88 rfl (lv_at hl 3 rfl) ?_
    refine va_get (D := D) (ci := 2) (v := .ref (a 6)) (C := RX2) (T := TX2) (N := 7) hx hb hts (fun _ h => List.mem_cons_of_mem _ (List.mem_append_right _ h)) hown hK.1 hP 0 rfl rfl 5 (by decide) (hts (.fieldLink RX2 28 "RevisionStores$Tree" "sums" "[I") (List.mem_of_getElem? (i := 3) rfl)) (fun _ h9 => h9) rfl dX2_make_89 ?_
    refine lv_iload hx hb dX2_make_92 (lv_at hl 2 rfl) ?_
    refine lv_iload hx hb dX2_make_94 (lv_at hl 0 rfl) ?_
    refine lv_bipush (v := nI 7) hx hb dX2_make_96 (by decide) ?_
    refine lv_iload_n hx hb dX2_make_98 rfl (lv_at hl 6 rfl) ?_
    refine lv_imul hx hb dX2_make_99 ?_
    refine lv_iadd hx hb dX2_make_100 ?_
    refine lv_iload hx hb dX2_make_101 (lv_at hl 1 rfl) ?_
    refine lv_iadd hx hb dX2_make_103 ?_
    refine lv_iload hx hb dX2_make_104 (lv_at hl 7 rfl) ?_
    refine r_if_eqB (x := b) (tgt := 113) hx hb dX2_make_106 (by decide) (fun c106 => ?_) (fun c106 => ?_)
    · refine lv_iconst (v := nI 0) hx hb dX2_make_113 (by decide) ?_
      refine lv_iadd hx hb dX2_make_114 ?_
      refine lv_sipush (v := nI 997) hx hb dX2_make_115 (by decide) ?_
      refine lv_irem hx hb dX2_make_118 (by decide) ?_
      refine r_top (y := mksu ge su o v b) (by simp [mksu, mkh, mkg, mkr, c8, c106]) ?_
      refine r_iast (j := n) (x := (mksu ge su o v b)) (f' := va_up su n (mksu ge su o v b)) hx hb hK.1 hP hD hS 6 0 rfl rfl (by omega) (by first | decide | omega) (up_i _ _ _) dX2_make_119 (fun H locs hP hD hS => ?_)
      have hP : va_P D vwCl (wT ct a n (va_up dc n d) (va_up pa n (some j8)) (va_up va n v) (va_up dl n b) (va_up ge n ((ge j8) + 1)) (va_up su n (mksu ge su o v b))) H := hP
      have hD : va_D A (wT ct a n (va_up dc n d) (va_up pa n (some j8)) (va_up va n v) (va_up dl n b) (va_up ge n ((ge j8) + 1)) (va_up su n (mksu ge su o v b))) := hD
      refine lv_aload_n hx hb dX2_make_120 rfl (lv_at hl 3 rfl) ?_
      refine lv_dup hx hb dX2_make_121 rfl ?_
      refine va_get (D := D) (ci := 2) (v := .int (nI n)) (C := RX2) (T := TX2) (N := 7) hx hb hts (fun _ h => List.mem_cons_of_mem _ (List.mem_append_right _ h)) hown hK.1 hP 0 rfl rfl 6 (by decide) (hts (.fieldLink RX2 31 "RevisionStores$Tree" "made" "I") (List.mem_of_getElem? (i := 1) rfl)) (fun _ h9 => h9) rfl dX2_make_122 ?_
      refine lv_iconst (v := nI 1) hx hb dX2_make_125 (by decide) ?_
      refine r_iaddN hx hb dX2_make_126 ?_
      refine va_put (D := D) (ci := 2) (v := .int (nI (n + 1))) (ty := .int) (C := RX2) (T := TX2) (N := 7) hx hb hts (fun _ h => List.mem_cons_of_mem _ (List.mem_append_right _ h)) tyX2 tyX2_ok nmX2 hown hK.1 hP hD hS 0 rfl rfl 6 (by decide) (hts (.fieldLink RX2 31 "RevisionStores$Tree" "made" "I") (List.mem_of_getElem? (i := 1) rfl)) (fun _ h9 => h9) rfl (by decide +kernel) rfl rfl (Nat.le_of_ble_eq_true rfl) dX2_make_127 (fun H locs hP hD hS => ?_)
      have hP : va_P D vwCl (wT ct a (n + 1) (va_up dc n d) (va_up pa n (some j8)) (va_up va n v) (va_up dl n b) (va_up ge n ((ge j8) + 1)) (va_up su n (mksu ge su o v b))) H := hP
      have hD : va_D A (wT ct a (n + 1) (va_up dc n d) (va_up pa n (some j8)) (va_up va n v) (va_up dl n b) (va_up ge n ((ge j8) + 1)) (va_up su n (mksu ge su o v b))) := hD
      refine lv_iload hx hb dX2_make_130 (lv_at hl 2 rfl) ?_
      have e9 : (va_up pa n (some j8)) = (va_up pa n o) := by simp [c8, c106]
      have hP := (congrArg (fun z9 => va_P D vwCl (wT ct a (n + 1) (va_up dc n d) z9 (va_up va n v) (va_up dl n b) (va_up ge n ((ge j8) + 1)) (va_up su n (mksu ge su o v b))) H) e9).mp hP
      have e9 : (va_up ge n ((ge j8) + 1)) = (va_up ge n (mkg ge o)) := by simp [mkg, c8, c106]
      have hP := (congrArg (fun z9 => va_P D vwCl (wT ct a (n + 1) (va_up dc n d) (va_up pa n o) (va_up va n v) (va_up dl n b) z9 (va_up su n (mksu ge su o v b))) H) e9).mp hP
      have hP : va_P D vwCl (wT ct a (n + 1) (va_up dc n d) (va_up pa n o) (va_up va n v) (va_up dl n b) (va_up ge n (mkg ge o)) (va_up su n (mksu ge su o v b))) H := hP
      exact W.iret hx hb hr (fun t ht hW => ⟨⟨_, (), rfl, rfl, by show va_P D vwCl _ t.heap; rw [ht]; exact hP⟩, hS.F ht⟩) hS.2.2 dX2_make_132
    · refine lv_iconst (v := nI 3) hx hb dX2_make_109 (by decide) ?_
      refine lv_goto (tgt := 114) hx hb dX2_make_110 (by decide) ?_
      refine lv_iadd hx hb dX2_make_114 ?_
      refine lv_sipush (v := nI 997) hx hb dX2_make_115 (by decide) ?_
      refine lv_irem hx hb dX2_make_118 (by decide) ?_
      refine r_top (y := mksu ge su o v b) (by simp [mksu, mkh, mkg, mkr, c8, c106]) ?_
      refine r_iast (j := n) (x := (mksu ge su o v b)) (f' := va_up su n (mksu ge su o v b)) hx hb hK.1 hP hD hS 6 0 rfl rfl (by omega) (by first | decide | omega) (up_i _ _ _) dX2_make_119 (fun H locs hP hD hS => ?_)
      have hP : va_P D vwCl (wT ct a n (va_up dc n d) (va_up pa n (some j8)) (va_up va n v) (va_up dl n b) (va_up ge n ((ge j8) + 1)) (va_up su n (mksu ge su o v b))) H := hP
      have hD : va_D A (wT ct a n (va_up dc n d) (va_up pa n (some j8)) (va_up va n v) (va_up dl n b) (va_up ge n ((ge j8) + 1)) (va_up su n (mksu ge su o v b))) := hD
      refine lv_aload_n hx hb dX2_make_120 rfl (lv_at hl 3 rfl) ?_
      refine lv_dup hx hb dX2_make_121 rfl ?_
      refine va_get (D := D) (ci := 2) (v := .int (nI n)) (C := RX2) (T := TX2) (N := 7) hx hb hts (fun _ h => List.mem_cons_of_mem _ (List.mem_append_right _ h)) hown hK.1 hP 0 rfl rfl 6 (by decide) (hts (.fieldLink RX2 31 "RevisionStores$Tree" "made" "I") (List.mem_of_getElem? (i := 1) rfl)) (fun _ h9 => h9) rfl dX2_make_122 ?_
      refine lv_iconst (v := nI 1) hx hb dX2_make_125 (by decide) ?_
      refine r_iaddN hx hb dX2_make_126 ?_
      refine va_put (D := D) (ci := 2) (v := .int (nI (n + 1))) (ty := .int) (C := RX2) (T := TX2) (N := 7) hx hb hts (fun _ h => List.mem_cons_of_mem _ (List.mem_append_right _ h)) tyX2 tyX2_ok nmX2 hown hK.1 hP hD hS 0 rfl rfl 6 (by decide) (hts (.fieldLink RX2 31 "RevisionStores$Tree" "made" "I") (List.mem_of_getElem? (i := 1) rfl)) (fun _ h9 => h9) rfl (by decide +kernel) rfl rfl (Nat.le_of_ble_eq_true rfl) dX2_make_127 (fun H locs hP hD hS => ?_)
      have hP : va_P D vwCl (wT ct a (n + 1) (va_up dc n d) (va_up pa n (some j8)) (va_up va n v) (va_up dl n b) (va_up ge n ((ge j8) + 1)) (va_up su n (mksu ge su o v b))) H := hP
      have hD : va_D A (wT ct a (n + 1) (va_up dc n d) (va_up pa n (some j8)) (va_up va n v) (va_up dl n b) (va_up ge n ((ge j8) + 1)) (va_up su n (mksu ge su o v b))) := hD
      refine lv_iload hx hb dX2_make_130 (lv_at hl 2 rfl) ?_
      have e9 : (va_up pa n (some j8)) = (va_up pa n o) := by simp [c8, c106]
      have hP := (congrArg (fun z9 => va_P D vwCl (wT ct a (n + 1) (va_up dc n d) z9 (va_up va n v) (va_up dl n b) (va_up ge n ((ge j8) + 1)) (va_up su n (mksu ge su o v b))) H) e9).mp hP
      have e9 : (va_up ge n ((ge j8) + 1)) = (va_up ge n (mkg ge o)) := by simp [mkg, c8, c106]
      have hP := (congrArg (fun z9 => va_P D vwCl (wT ct a (n + 1) (va_up dc n d) (va_up pa n o) (va_up va n v) (va_up dl n b) z9 (va_up su n (mksu ge su o v b))) H) e9).mp hP
      have hP : va_P D vwCl (wT ct a (n + 1) (va_up dc n d) (va_up pa n o) (va_up va n v) (va_up dl n b) (va_up ge n (mkg ge o)) (va_up su n (mksu ge su o v b))) H := hP
      exact W.iret hx hb hr (fun t ht hW => ⟨⟨_, (), rfl, rfl, by show va_P D vwCl _ t.heap; rw [ht]; exact hP⟩, hS.F ht⟩) hS.2.2 dX2_make_132
  · have hl := lv_re (f := fun z9 => [(5, .int (nI n)), (0, .ref (a 0)), (1, .int (nI d)), (2, .int z9), (3, .int v), (4, .int (bI b))]) hl (show eP o = eP none from congrArg eP c8)
    refine lv_iconst (v := nI 1) hx hb dX2_make_11 (by decide) ?_
    refine lv_goto (tgt := 23) hx hb dX2_make_12 (by decide) ?_
    refine lv_istore (lv' := [(6, .int (nI 1)), (5, .int (nI n)), (0, .ref (a 0)), (1, .int (nI d)), (2, .int (eP none)), (3, .int v), (4, .int (bI b))]) hx hb dX2_make_23 hl (by decide) rfl (fun ls hl => ?_)
    refine lv_iload_n hx hb dX2_make_25 rfl (lv_at hl 4 rfl) ?_
    refine lv_iconst (v := -1) hx hb dX2_make_26 (by decide) ?_
    refine lv_icmp_ne (x := -1) (y := -1) (tgt := 35) hx hb dX2_make_27 (by decide) (fun h => absurd rfl h) (fun _ => ?_)
    refine lv_bipush (v := nI 31) hx hb dX2_make_30 (by decide) ?_
    refine lv_goto (tgt := 44) hx hb dX2_make_32 (by decide) ?_
    refine lv_istore (lv' := [(7, .int (nI 31)), (6, .int (nI 1)), (5, .int (nI n)), (0, .ref (a 0)), (1, .int (nI d)), (2, .int (eP none)), (3, .int v), (4, .int (bI b))]) hx hb dX2_make_44 hl (by decide) rfl (fun ls hl => ?_)
    refine lv_aload_n hx hb dX2_make_46 rfl (lv_at hl 3 rfl) ?_
    refine va_get (D := D) (ci := 2) (v := .ref (a 1)) (C := RX2) (T := TX2) (N := 7) hx hb hts (fun _ h => List.mem_cons_of_mem _ (List.mem_append_right _ h)) hown hK.1 hP 0 rfl rfl 0 (by decide) (hts (.fieldLink RX2 9 "RevisionStores$Tree" "documents" "[I") (List.mem_of_getElem? (i := 4) rfl)) (fun _ h9 => h9) rfl dX2_make_47 ?_
    refine lv_iload hx hb dX2_make_50 (lv_at hl 2 rfl) ?_
    refine lv_iload_n hx hb dX2_make_52 rfl (lv_at hl 4 rfl) ?_
    refine r_iast (j := n) (x := (nI d)) (f' := fun q9 => nI ((va_up dc n d) q9)) hx hb hK.1 hP hD hS 1 0 rfl rfl (by omega) (by first | decide | omega) (up_n _ _ _) dX2_make_53 (fun H locs hP hD hS => ?_)
    have hP : va_P D vwCl (wT ct a n (va_up dc n d) pa va dl ge su) H := hP
    have hD : va_D A (wT ct a n (va_up dc n d) pa va dl ge su) := hD
    refine lv_aload_n hx hb dX2_make_54 rfl (lv_at hl 3 rfl) ?_
    refine va_get (D := D) (ci := 2) (v := .ref (a 2)) (C := RX2) (T := TX2) (N := 7) hx hb hts (fun _ h => List.mem_cons_of_mem _ (List.mem_append_right _ h)) hown hK.1 hP 0 rfl rfl 1 (by decide) (hts (.fieldLink RX2 15 "RevisionStores$Tree" "parents" "[I") (List.mem_of_getElem? (i := 5) rfl)) (fun _ h9 => h9) rfl dX2_make_55 ?_
    refine lv_iload hx hb dX2_make_58 (lv_at hl 2 rfl) ?_
    refine lv_iload_n hx hb dX2_make_60 rfl (lv_at hl 5 rfl) ?_
    refine r_iast (j := n) (x := (eP none)) (f' := fun q9 => eP ((va_up pa n none) q9)) hx hb hK.1 hP hD hS 2 0 rfl rfl (by omega) (by first | decide | omega) (up_p _ _ _) dX2_make_61 (fun H locs hP hD hS => ?_)
    have hP : va_P D vwCl (wT ct a n (va_up dc n d) (va_up pa n none) va dl ge su) H := hP
    have hD : va_D A (wT ct a n (va_up dc n d) (va_up pa n none) va dl ge su) := hD
    refine lv_aload_n hx hb dX2_make_62 rfl (lv_at hl 3 rfl) ?_
    refine va_get (D := D) (ci := 2) (v := .ref (a 3)) (C := RX2) (T := TX2) (N := 7) hx hb hts (fun _ h => List.mem_cons_of_mem _ (List.mem_append_right _ h)) hown hK.1 hP 0 rfl rfl 2 (by decide) (hts (.fieldLink RX2 18 "RevisionStores$Tree" "values" "[I") (List.mem_of_getElem? (i := 6) rfl)) (fun _ h9 => h9) rfl dX2_make_63 ?_
    refine lv_iload hx hb dX2_make_66 (lv_at hl 2 rfl) ?_
    refine lv_iload_n hx hb dX2_make_68 rfl (lv_at hl 6 rfl) ?_
    refine r_iast (j := n) (x := v) (f' := va_up va n v) hx hb hK.1 hP hD hS 3 0 rfl rfl (by omega) (by first | decide | omega) (up_i _ _ _) dX2_make_69 (fun H locs hP hD hS => ?_)
    have hP : va_P D vwCl (wT ct a n (va_up dc n d) (va_up pa n none) (va_up va n v) dl ge su) H := hP
    have hD : va_D A (wT ct a n (va_up dc n d) (va_up pa n none) (va_up va n v) dl ge su) := hD
    refine lv_aload_n hx hb dX2_make_70 rfl (lv_at hl 3 rfl) ?_
    refine va_get (D := D) (ci := 2) (v := .ref (a 4)) (C := RX2) (T := TX2) (N := 7) hx hb hts (fun _ h => List.mem_cons_of_mem _ (List.mem_append_right _ h)) hown hK.1 hP 0 rfl rfl 3 (by decide) (hts (.fieldLink RX2 21 "RevisionStores$Tree" "deletions" "[Z") (List.mem_of_getElem? (i := 7) rfl)) (fun _ h9 => h9) rfl dX2_make_71 ?_
    refine lv_iload hx hb dX2_make_74 (lv_at hl 2 rfl) ?_
    refine lv_iload hx hb dX2_make_76 (lv_at hl 7 rfl) ?_
    refine r_zast (j := n) (x := b) (f' := fun q9 => bI ((va_up dl n b) q9)) hx hb hK.1 hP hD hS 4 1 rfl rfl (by omega) (by first | decide | omega) (up_b _ _ _) dX2_make_78 (fun H locs hP hD hS => ?_)
    have hP : va_P D vwCl (wT ct a n (va_up dc n d) (va_up pa n none) (va_up va n v) (va_up dl n b) ge su) H := hP
    have hD : va_D A (wT ct a n (va_up dc n d) (va_up pa n none) (va_up va n v) (va_up dl n b) ge su) := hD
    refine lv_aload_n hx hb dX2_make_79 rfl (lv_at hl 3 rfl) ?_
    refine va_get (D := D) (ci := 2) (v := .ref (a 5)) (C := RX2) (T := TX2) (N := 7) hx hb hts (fun _ h => List.mem_cons_of_mem _ (List.mem_append_right _ h)) hown hK.1 hP 0 rfl rfl 4 (by decide) (hts (.fieldLink RX2 25 "RevisionStores$Tree" "generations" "[I") (List.mem_of_getElem? (i := 2) rfl)) (fun _ h9 => h9) rfl dX2_make_80 ?_
    refine lv_iload hx hb dX2_make_83 (lv_at hl 2 rfl) ?_
    refine lv_iload hx hb dX2_make_85 (lv_at hl 1 rfl) ?_
    refine r_iast (j := n) (x := (nI 1)) (f' := fun q9 => nI ((va_up ge n 1) q9)) hx hb hK.1 hP hD hS 5 0 rfl rfl (by omega) (by first | decide | omega) (up_n _ _ _) dX2_make_87 (fun H locs hP hD hS => ?_)
    have hP : va_P D vwCl (wT ct a n (va_up dc n d) (va_up pa n none) (va_up va n v) (va_up dl n b) (va_up ge n 1) su) H := hP
    have hD : va_D A (wT ct a n (va_up dc n d) (va_up pa n none) (va_up va n v) (va_up dl n b) (va_up ge n 1) su) := hD
    refine lv_aload_n hx hb dX2_make_88 rfl (lv_at hl 3 rfl) ?_
    refine va_get (D := D) (ci := 2) (v := .ref (a 6)) (C := RX2) (T := TX2) (N := 7) hx hb hts (fun _ h => List.mem_cons_of_mem _ (List.mem_append_right _ h)) hown hK.1 hP 0 rfl rfl 5 (by decide) (hts (.fieldLink RX2 28 "RevisionStores$Tree" "sums" "[I") (List.mem_of_getElem? (i := 3) rfl)) (fun _ h9 => h9) rfl dX2_make_89 ?_
    refine lv_iload hx hb dX2_make_92 (lv_at hl 2 rfl) ?_
    refine lv_iload hx hb dX2_make_94 (lv_at hl 0 rfl) ?_
    refine lv_bipush (v := nI 7) hx hb dX2_make_96 (by decide) ?_
    refine lv_iload_n hx hb dX2_make_98 rfl (lv_at hl 6 rfl) ?_
    refine lv_imul hx hb dX2_make_99 ?_
    refine lv_iadd hx hb dX2_make_100 ?_
    refine lv_iload hx hb dX2_make_101 (lv_at hl 1 rfl) ?_
    refine lv_iadd hx hb dX2_make_103 ?_
    refine lv_iload hx hb dX2_make_104 (lv_at hl 7 rfl) ?_
    refine r_if_eqB (x := b) (tgt := 113) hx hb dX2_make_106 (by decide) (fun c106 => ?_) (fun c106 => ?_)
    · refine lv_iconst (v := nI 0) hx hb dX2_make_113 (by decide) ?_
      refine lv_iadd hx hb dX2_make_114 ?_
      refine lv_sipush (v := nI 997) hx hb dX2_make_115 (by decide) ?_
      refine lv_irem hx hb dX2_make_118 (by decide) ?_
      refine r_top (y := mksu ge su o v b) (by simp [mksu, mkh, mkg, mkr, c8, c106]) ?_
      refine r_iast (j := n) (x := (mksu ge su o v b)) (f' := va_up su n (mksu ge su o v b)) hx hb hK.1 hP hD hS 6 0 rfl rfl (by omega) (by first | decide | omega) (up_i _ _ _) dX2_make_119 (fun H locs hP hD hS => ?_)
      have hP : va_P D vwCl (wT ct a n (va_up dc n d) (va_up pa n none) (va_up va n v) (va_up dl n b) (va_up ge n 1) (va_up su n (mksu ge su o v b))) H := hP
      have hD : va_D A (wT ct a n (va_up dc n d) (va_up pa n none) (va_up va n v) (va_up dl n b) (va_up ge n 1) (va_up su n (mksu ge su o v b))) := hD
      refine lv_aload_n hx hb dX2_make_120 rfl (lv_at hl 3 rfl) ?_
      refine lv_dup hx hb dX2_make_121 rfl ?_
      refine va_get (D := D) (ci := 2) (v := .int (nI n)) (C := RX2) (T := TX2) (N := 7) hx hb hts (fun _ h => List.mem_cons_of_mem _ (List.mem_append_right _ h)) hown hK.1 hP 0 rfl rfl 6 (by decide) (hts (.fieldLink RX2 31 "RevisionStores$Tree" "made" "I") (List.mem_of_getElem? (i := 1) rfl)) (fun _ h9 => h9) rfl dX2_make_122 ?_
      refine lv_iconst (v := nI 1) hx hb dX2_make_125 (by decide) ?_
      refine r_iaddN hx hb dX2_make_126 ?_
      refine va_put (D := D) (ci := 2) (v := .int (nI (n + 1))) (ty := .int) (C := RX2) (T := TX2) (N := 7) hx hb hts (fun _ h => List.mem_cons_of_mem _ (List.mem_append_right _ h)) tyX2 tyX2_ok nmX2 hown hK.1 hP hD hS 0 rfl rfl 6 (by decide) (hts (.fieldLink RX2 31 "RevisionStores$Tree" "made" "I") (List.mem_of_getElem? (i := 1) rfl)) (fun _ h9 => h9) rfl (by decide +kernel) rfl rfl (Nat.le_of_ble_eq_true rfl) dX2_make_127 (fun H locs hP hD hS => ?_)
      have hP : va_P D vwCl (wT ct a (n + 1) (va_up dc n d) (va_up pa n none) (va_up va n v) (va_up dl n b) (va_up ge n 1) (va_up su n (mksu ge su o v b))) H := hP
      have hD : va_D A (wT ct a (n + 1) (va_up dc n d) (va_up pa n none) (va_up va n v) (va_up dl n b) (va_up ge n 1) (va_up su n (mksu ge su o v b))) := hD
      refine lv_iload hx hb dX2_make_130 (lv_at hl 2 rfl) ?_
      have e9 : (va_up pa n none) = (va_up pa n o) := by simp [c8, c106]
      have hP := (congrArg (fun z9 => va_P D vwCl (wT ct a (n + 1) (va_up dc n d) z9 (va_up va n v) (va_up dl n b) (va_up ge n 1) (va_up su n (mksu ge su o v b))) H) e9).mp hP
      have e9 : (va_up ge n 1) = (va_up ge n (mkg ge o)) := by simp [mkg, c8, c106]
      have hP := (congrArg (fun z9 => va_P D vwCl (wT ct a (n + 1) (va_up dc n d) (va_up pa n o) (va_up va n v) (va_up dl n b) z9 (va_up su n (mksu ge su o v b))) H) e9).mp hP
      have hP : va_P D vwCl (wT ct a (n + 1) (va_up dc n d) (va_up pa n o) (va_up va n v) (va_up dl n b) (va_up ge n (mkg ge o)) (va_up su n (mksu ge su o v b))) H := hP
      exact W.iret hx hb hr (fun t ht hW => ⟨⟨_, (), rfl, rfl, by show va_P D vwCl _ t.heap; rw [ht]; exact hP⟩, hS.F ht⟩) hS.2.2 dX2_make_132
    · refine lv_iconst (v := nI 3) hx hb dX2_make_109 (by decide) ?_
      refine lv_goto (tgt := 114) hx hb dX2_make_110 (by decide) ?_
      refine lv_iadd hx hb dX2_make_114 ?_
      refine lv_sipush (v := nI 997) hx hb dX2_make_115 (by decide) ?_
      refine lv_irem hx hb dX2_make_118 (by decide) ?_
      refine r_top (y := mksu ge su o v b) (by simp [mksu, mkh, mkg, mkr, c8, c106]) ?_
      refine r_iast (j := n) (x := (mksu ge su o v b)) (f' := va_up su n (mksu ge su o v b)) hx hb hK.1 hP hD hS 6 0 rfl rfl (by omega) (by first | decide | omega) (up_i _ _ _) dX2_make_119 (fun H locs hP hD hS => ?_)
      have hP : va_P D vwCl (wT ct a n (va_up dc n d) (va_up pa n none) (va_up va n v) (va_up dl n b) (va_up ge n 1) (va_up su n (mksu ge su o v b))) H := hP
      have hD : va_D A (wT ct a n (va_up dc n d) (va_up pa n none) (va_up va n v) (va_up dl n b) (va_up ge n 1) (va_up su n (mksu ge su o v b))) := hD
      refine lv_aload_n hx hb dX2_make_120 rfl (lv_at hl 3 rfl) ?_
      refine lv_dup hx hb dX2_make_121 rfl ?_
      refine va_get (D := D) (ci := 2) (v := .int (nI n)) (C := RX2) (T := TX2) (N := 7) hx hb hts (fun _ h => List.mem_cons_of_mem _ (List.mem_append_right _ h)) hown hK.1 hP 0 rfl rfl 6 (by decide) (hts (.fieldLink RX2 31 "RevisionStores$Tree" "made" "I") (List.mem_of_getElem? (i := 1) rfl)) (fun _ h9 => h9) rfl dX2_make_122 ?_
      refine lv_iconst (v := nI 1) hx hb dX2_make_125 (by decide) ?_
      refine r_iaddN hx hb dX2_make_126 ?_
      refine va_put (D := D) (ci := 2) (v := .int (nI (n + 1))) (ty := .int) (C := RX2) (T := TX2) (N := 7) hx hb hts (fun _ h => List.mem_cons_of_mem _ (List.mem_append_right _ h)) tyX2 tyX2_ok nmX2 hown hK.1 hP hD hS 0 rfl rfl 6 (by decide) (hts (.fieldLink RX2 31 "RevisionStores$Tree" "made" "I") (List.mem_of_getElem? (i := 1) rfl)) (fun _ h9 => h9) rfl (by decide +kernel) rfl rfl (Nat.le_of_ble_eq_true rfl) dX2_make_127 (fun H locs hP hD hS => ?_)
      have hP : va_P D vwCl (wT ct a (n + 1) (va_up dc n d) (va_up pa n none) (va_up va n v) (va_up dl n b) (va_up ge n 1) (va_up su n (mksu ge su o v b))) H := hP
      have hD : va_D A (wT ct a (n + 1) (va_up dc n d) (va_up pa n none) (va_up va n v) (va_up dl n b) (va_up ge n 1) (va_up su n (mksu ge su o v b))) := hD
      refine lv_iload hx hb dX2_make_130 (lv_at hl 2 rfl) ?_
      have e9 : (va_up pa n none) = (va_up pa n o) := by simp [c8, c106]
      have hP := (congrArg (fun z9 => va_P D vwCl (wT ct a (n + 1) (va_up dc n d) z9 (va_up va n v) (va_up dl n b) (va_up ge n 1) (va_up su n (mksu ge su o v b))) H) e9).mp hP
      have e9 : (va_up ge n 1) = (va_up ge n (mkg ge o)) := by simp [mkg, c8, c106]
      have hP := (congrArg (fun z9 => va_P D vwCl (wT ct a (n + 1) (va_up dc n d) (va_up pa n o) (va_up va n v) (va_up dl n b) z9 (va_up su n (mksu ge su o v b))) H) e9).mp hP
      have hP : va_P D vwCl (wT ct a (n + 1) (va_up dc n d) (va_up pa n o) (va_up va n v) (va_up dl n b) (va_up ge n (mkg ge o)) (va_up su n (mksu ge su o v b))) H := hP
      exact W.iret hx hb hr (fun t ht hW => ⟨⟨_, (), rfl, rfl, by show va_P D vwCl _ t.heap; rw [ht]; exact hP⟩, hS.F ht⟩) hS.2.2 dX2_make_132
