set_option maxHeartbeats 8000000 in
set_option maxRecDepth 100000 in
theorem cJ7_fill_53178_ok (l : Launch) (D : va_G) (ct : Nat → ClassId) (b : Nat) (len : Nat) (f : Nat → Int32) (x : Int32) (f2 : Nat → Int32) (hlen : len < 2 ^ 31) (hf2 : ∀ j, j < len → f2 j = x) (sz : Nat) : Met l yJ7_fill_53178 wsJ7_fill_53178 ({ frames := 0, cells := 0, slots := 0, locals := 0 } : Room) (wrPc D ct [.ref b, .int x] (wA ct b len f) sz) (wqV D (wA ct b len f2) (va_A (wA ct b len f) sz)) 0 0 (va_A (wA ct b len f) sz) := by
  refine Met.ofW (cc := cJ7_fill_53178) (maxL := 4) (ret := none) (by decide) rfl ?_
  intro p e s m args below meth c s₁ B hml hv
  obtain ⟨rfl, hsz, hP, hK, hD0⟩ := hv
  have hx := B.exec
  have hb := B.bytes
  have hr := B.returns
  have hts := atoms_spec (ws := wsJ7_fill_53178) B.pre
  have hown : s.vm.findClass RJ7 = some m.cls := findClass_of_methodNamed B.named
  have hlocks := B.notSynchronized
  subst hsz
  have hD := hD0.self (sz := s.heap.size)
  generalize hAe : va_A (wA ct b len f) s.heap.size = A at hD ⊢
  have hA : ∀ q : Nat, s.heap.size ≤ q → A q := fun q h => by rw [← hAe]; exact Or.inr h
  have hS : va_S A s.heap s.heap [] := va_S.rf
  have hP : va_P D vwCl (wA ct b len f) s.heap := hP
  clear hAe hD0
  have hl := lv_entry ([.ref b, .int x]) (n := 4) (Nat.le_of_ble_eq_true rfl)
  rw [lg_entry_eq]
  generalize (lg_sl ([.ref b, .int x]) ++ List.replicate (4 - (lg_sl ([.ref b, .int x])).length) Slot.unset).toArray = ls at hl ⊢
  have hl : lv_has ls 4 [(0, .ref b), (1, .int x)] := hl
  have hH0 : s.heap.size ≤ s.heap.size := Nat.le_refl _
  refine lv_iconst (v := nI 0) hx hb dJ7_fill_53178_0 (by decide) ?_
  refine lv_istore_n (lv' := [(2, .int (nI 0)), (0, .ref b), (1, .int x)]) hx hb dJ7_fill_53178_1 rfl hl (by decide) rfl (fun ls hl => ?_)
  refine lv_aload_n hx hb dJ7_fill_53178_2 rfl (lv_at hl 1 rfl) ?_
  refine va_alen (v := nI len) hx hb hK.1 hP 0 0 rfl rfl rfl dJ7_fill_53178_3 ?_
  refine lv_istore_n (lv' := [(3, .int (nI len)), (2, .int (nI 0)), (0, .ref b), (1, .int x)]) hx hb dJ7_fill_53178_4 rfl hl (by decide) rfl (fun ls hl => ?_)
  have key5 : ∀ (d5 : Nat) (k : Nat) (hk : k ≤ len), len - k < d5 → ∀ (H : Heap) (locs : List Loc) (ls : Array Slot), va_P D vwCl (wA ct b len (fil f x k)) H → va_D A (wA ct b len (fil f x k)) → va_S A s.heap H locs → lv_has ls 4 [(3, .int (nI len)), (2, .int (nI k)), (0, .ref b), (1, .int x)] → W p l e ({ frames := 0, cells := 0, slots := 0, locals := 0 } : Room) s m ([.ref b, .int x] : List Value).toArray below meth c H locs 0 0 (MQ below (wqV D (wA ct b len f2) A) ([.ref b, .int x] : List Value).toArray s 0 0 A) (F0 m 5 ls []) := by
    intro d5
    induction d5 with
    | zero => intro k hk h9; exact absurd h9 (Nat.not_lt_zero _)
    | succ d5 ih5 =>
      intro k hk hm5 H locs ls hP hD hS hl
      refine lv_iload_n hx hb dJ7_fill_53178_5 rfl (lv_at hl 1 rfl) ?_
      refine lv_iload_n hx hb dJ7_fill_53178_6 rfl (lv_at hl 0 rfl) ?_
      refine r_icmp_geN hx hb (x := k) (y := len) (by first | omega | decide) (by first | omega | decide) (tgt := 20) dJ7_fill_53178_7 (by decide) (fun c7 => ?_) (fun c7 => ?_)
      · have hP : va_P D vwCl (wA ct b len f2) H := wA_cong (fun j hj => by rw [hf2 j hj]; exact if_pos (by omega)) hP
        exact W.vret hx hb hr (fun t ht hW => ⟨⟨(), rfl, trivial, by rw [ht]; exact hP⟩, hS.F ht⟩) hS.2.2 dJ7_fill_53178_20
      · refine lv_aload_n hx hb dJ7_fill_53178_10 rfl (lv_at hl 2 rfl) ?_
        refine lv_iload_n hx hb dJ7_fill_53178_11 rfl (lv_at hl 1 rfl) ?_
        refine lv_iload_n hx hb dJ7_fill_53178_12 rfl (lv_at hl 3 rfl) ?_
        refine r_iast (j := k) (x := x) (f' := va_up (fil f x k) k x) hx hb hK.1 hP hD hS 0 0 rfl rfl (by omega) (by first | decide | omega) (up_i _ _ _) dJ7_fill_53178_13 (fun H locs hP hD hS => ?_)
        have hP : va_P D vwCl (wA ct b len (va_up (fil f x k) k x)) H := hP
        have hD : va_D A (wA ct b len (va_up (fil f x k) k x)) := hD
        refine lv_iinc (v := nI (k + 1)) (lv' := [(2, .int (nI (k + 1))), (3, .int (nI len)), (0, .ref b), (1, .int x)]) hx hb dJ7_fill_53178_14 hl (k := 1) rfl (nI_1 _) (by decide) rfl (fun ls hl => ?_)
        refine lv_goto (tgt := 5) hx hb dJ7_fill_53178_17 (by decide) ?_
        have e9 : va_up (fil f x k) k x = fil f x (k + 1) := fil_s f x k
        rw [e9] at hP hD
        have hP : va_P D vwCl (wA ct b len (fil f x (k + 1))) H := hP
        have hD : va_D A (wA ct b len (fil f x (k + 1))) := hD
        exact ih5 (k + 1) (by first | assumption | omega) (by omega) H locs ls hP hD hS (lv_sub hl [1, 0, 2, 3] rfl)
  have e9 : f = fil f x 0 := fil_0 f x
  rw [e9] at hP hD
  have hP : va_P D vwCl (wA ct b len (fil f x 0)) s.heap := hP
  have hD : va_D A (wA ct b len (fil f x 0)) := hD
  exact key5 ((len - 0) + 1) 0 (by first | assumption | omega) (Nat.lt_succ_self _) _ _ ls hP hD hS (lv_sub hl [0, 1, 2, 3] rfl)
set_option maxHeartbeats 8000000 in
set_option maxRecDepth 100000 in
theorem cX2_find_ok (l : Launch) (D : va_G) (ct : Nat → ClassId) (a : Nat → Nat) (n : Nat) (dc : Nat → Nat) (pa : Nat → Option Nat) (va : Nat → Int32) (dl : Nat → Bool) (ge : Nat → Nat) (su : Nat → Int32) (d : Nat) (o : Option Nat) (v : Int32) (b : Bool) (hn : n ≤ 150) (hTd : ∀ k, dc k < 4) (hd4 : d < 4) : Met l yX2_find wsX2_find ({ frames := 0, cells := 0, slots := 0, locals := 0 } : Room) (roPc D ct [.ref (a 0), .int (nI d), .int (eP o), .int v, .int (bI b)] (wT ct a n dc pa va dl ge su)) (rqI (eP (ffd (fnd dc pa va dl d o v b) n))) 0 0 (fun _ => False) := by
  refine Met.ofW (cc := cX2_find) (maxL := 6) (ret := (some .int)) (by decide) rfl ?_
  intro p e s m args below meth c s₁ B hml hv
  obtain ⟨rfl, hP, hK⟩ := hv
  have hx := B.exec
  have hb := B.bytes
  have hr := B.returns
  have hts := atoms_spec (ws := wsX2_find) B.pre
  have hown : s.vm.findClass RX2 = some m.cls := findClass_of_methodNamed B.named
  have hlocks := B.notSynchronized
  have hl := lv_entry ([.ref (a 0), .int (nI d), .int (eP o), .int v, .int (bI b)]) (n := 6) (Nat.le_of_ble_eq_true rfl)
  rw [lg_entry_eq]
  generalize (lg_sl ([.ref (a 0), .int (nI d), .int (eP o), .int v, .int (bI b)]) ++ List.replicate (6 - (lg_sl ([.ref (a 0), .int (nI d), .int (eP o), .int v, .int (bI b)])).length) Slot.unset).toArray = ls at hl ⊢
  have hl : lv_has ls 6 [(0, .ref (a 0)), (1, .int (nI d)), (2, .int (eP o)), (3, .int v), (4, .int (bI b))] := hl
  refine lv_iconst (v := nI 0) hx hb dX2_find_0 (by decide) ?_
  refine lv_istore (lv' := [(5, .int (nI 0)), (0, .ref (a 0)), (1, .int (nI d)), (2, .int (eP o)), (3, .int v), (4, .int (bI b))]) hx hb dX2_find_1 hl (by decide) rfl (fun ls hl => ?_)
  have key3 : ∀ (d3 : Nat) (k : Nat) (hk : k ≤ n) (hno : ffd (fnd dc pa va dl d o v b) k = none), n - k < d3 → ∀  (ls : Array Slot), lv_has ls 6 [(5, .int (nI k)), (0, .ref (a 0)), (1, .int (nI d)), (2, .int (eP o)), (3, .int v), (4, .int (bI b))] → W p l e ({ frames := 0, cells := 0, slots := 0, locals := 0 } : Room) s m ([.ref (a 0), .int (nI d), .int (eP o), .int v, .int (bI b)] : List Value).toArray below meth c s.heap [] 0 0 (MQ below (rqI (eP (ffd (fnd dc pa va dl d o v b) n))) ([.ref (a 0), .int (nI d), .int (eP o), .int v, .int (bI b)] : List Value).toArray s 0 0 (fun _ => False)) (F0 m 3 ls []) := by
    intro d3
    induction d3 with
    | zero => intro k hk hno h9; exact absurd h9 (Nat.not_lt_zero _)
    | succ d3 ih3 =>
      intro k hk hno hm3  ls  hl
      refine lv_iload hx hb dX2_find_3 (lv_at hl 0 rfl) ?_
      refine lv_aload_n hx hb dX2_find_5 rfl (lv_at hl 1 rfl) ?_
      refine va_get (D := D) (ci := 2) (v := .int (nI n)) (C := RX2) (T := TX2) (N := 7) hx hb hts (fun _ h => List.mem_cons_of_mem _ (List.mem_append_right _ h)) hown hK.1 hP 0 rfl rfl 6 (by decide) (hts (.fieldLink RX2 31 "RevisionStores$Tree" "made" "I") (List.mem_of_getElem? (i := 1) rfl)) (fun _ h9 => h9) rfl dX2_find_6 ?_
      refine r_icmp_geN hx hb (x := k) (y := n) (by first | omega | decide) (by first | omega | decide) (tgt := 66) dX2_find_9 (by decide) (fun c9 => ?_) (fun c9 => ?_)
      · refine lv_iconst (v := -1) hx hb dX2_find_66 (by decide) ?_
        refine r_top (y := eP (ffd (fnd dc pa va dl d o v b) n)) (by first | (rw [ffd_hit (n := n) hno (by simp [fnd, c9]) (by omega)]; rfl) | (rw [show n = k by omega, hno]; rfl)) ?_
        exact W.iret hx hb hr (fun t ht hW => ⟨_, rfl, rfl, ht⟩) (fun _ h => by cases h) dX2_find_67
      · refine lv_aload_n hx hb dX2_find_12 rfl (lv_at hl 1 rfl) ?_
        refine va_get (D := D) (ci := 2) (v := .ref (a 1)) (C := RX2) (T := TX2) (N := 7) hx hb hts (fun _ h => List.mem_cons_of_mem _ (List.mem_append_right _ h)) hown hK.1 hP 0 rfl rfl 0 (by decide) (hts (.fieldLink RX2 9 "RevisionStores$Tree" "documents" "[I") (List.mem_of_getElem? (i := 2) rfl)) (fun _ h9 => h9) rfl dX2_find_13 ?_
        refine lv_iload hx hb dX2_find_16 (lv_at hl 0 rfl) ?_
        refine r_iald (j := k) (v := nI (dc k)) hx hb hK.1 hP 1 0 rfl rfl (by omega) (by first | decide | omega) rfl dX2_find_18 ?_
        have f18 := hTd k
        refine lv_iload_n hx hb dX2_find_19 rfl (lv_at hl 2 rfl) ?_
        refine r_icmp_neN hx hb (x := dc k) (y := d) (by first | omega | decide) (by first | omega | decide) (tgt := 60) dX2_find_20 (by decide) (fun c20 => ?_) (fun c20 => ?_)
        · refine lv_iinc (v := nI (k + 1)) (lv' := [(5, .int (nI (k + 1))), (0, .ref (a 0)), (1, .int (nI d)), (2, .int (eP o)), (3, .int v), (4, .int (bI b))]) hx hb dX2_find_60 hl (k := 0) rfl (nI_1 _) (by decide) rfl (fun ls hl => ?_)
          refine lv_goto (tgt := 3) hx hb dX2_find_63 (by decide) ?_
          exact ih3 (k + 1) (by first | assumption | omega) (ffd_no hno (by simp [fnd, c9, c20])) (by omega)  ls  (lv_sub hl [0, 1, 2, 3, 4, 5] rfl)
        · refine lv_aload_n hx hb dX2_find_23 rfl (lv_at hl 1 rfl) ?_
          refine va_get (D := D) (ci := 2) (v := .ref (a 2)) (C := RX2) (T := TX2) (N := 7) hx hb hts (fun _ h => List.mem_cons_of_mem _ (List.mem_append_right _ h)) hown hK.1 hP 0 rfl rfl 1 (by decide) (hts (.fieldLink RX2 15 "RevisionStores$Tree" "parents" "[I") (List.mem_of_getElem? (i := 3) rfl)) (fun _ h9 => h9) rfl dX2_find_24 ?_
          refine lv_iload hx hb dX2_find_27 (lv_at hl 0 rfl) ?_
          refine r_iald (j := k) (v := eP (pa k)) hx hb hK.1 hP 2 0 rfl rfl (by omega) (by first | decide | omega) rfl dX2_find_29 ?_
          refine lv_iload_n hx hb dX2_find_30 rfl (lv_at hl 3 rfl) ?_
          refine lv_icmp_ne (x := eP (pa k)) (y := eP o) (tgt := 60) hx hb dX2_find_31 (by decide) (fun c31 => ?_) (fun c31 => ?_)
          · refine lv_iinc (v := nI (k + 1)) (lv' := [(5, .int (nI (k + 1))), (0, .ref (a 0)), (1, .int (nI d)), (2, .int (eP o)), (3, .int v), (4, .int (bI b))]) hx hb dX2_find_60 hl (k := 0) rfl (nI_1 _) (by decide) rfl (fun ls hl => ?_)
            refine lv_goto (tgt := 3) hx hb dX2_find_63 (by decide) ?_
            exact ih3 (k + 1) (by first | assumption | omega) (ffd_no hno (by simp [fnd, c9, c20, c31])) (by omega)  ls  (lv_sub hl [0, 1, 2, 3, 4, 5] rfl)
          · refine lv_aload_n hx hb dX2_find_34 rfl (lv_at hl 1 rfl) ?_
            refine va_get (D := D) (ci := 2) (v := .ref (a 3)) (C := RX2) (T := TX2) (N := 7) hx hb hts (fun _ h => List.mem_cons_of_mem _ (List.mem_append_right _ h)) hown hK.1 hP 0 rfl rfl 2 (by decide) (hts (.fieldLink RX2 18 "RevisionStores$Tree" "values" "[I") (List.mem_of_getElem? (i := 4) rfl)) (fun _ h9 => h9) rfl dX2_find_35 ?_
            refine lv_iload hx hb dX2_find_38 (lv_at hl 0 rfl) ?_
            refine r_iald (j := k) (v := va k) hx hb hK.1 hP 3 0 rfl rfl (by omega) (by first | decide | omega) rfl dX2_find_40 ?_
            refine lv_iload_n hx hb dX2_find_41 rfl (lv_at hl 4 rfl) ?_
            refine lv_icmp_ne (x := va k) (y := v) (tgt := 60) hx hb dX2_find_42 (by decide) (fun c42 => ?_) (fun c42 => ?_)
            · refine lv_iinc (v := nI (k + 1)) (lv' := [(5, .int (nI (k + 1))), (0, .ref (a 0)), (1, .int (nI d)), (2, .int (eP o)), (3, .int v), (4, .int (bI b))]) hx hb dX2_find_60 hl (k := 0) rfl (nI_1 _) (by decide) rfl (fun ls hl => ?_)
              refine lv_goto (tgt := 3) hx hb dX2_find_63 (by decide) ?_
              exact ih3 (k + 1) (by first | assumption | omega) (ffd_no hno (by simp [fnd, c9, c20, c31, c42])) (by omega)  ls  (lv_sub hl [0, 1, 2, 3, 4, 5] rfl)
            · refine lv_aload_n hx hb dX2_find_45 rfl (lv_at hl 1 rfl) ?_
              refine va_get (D := D) (ci := 2) (v := .ref (a 4)) (C := RX2) (T := TX2) (N := 7) hx hb hts (fun _ h => List.mem_cons_of_mem _ (List.mem_append_right _ h)) hown hK.1 hP 0 rfl rfl 3 (by decide) (hts (.fieldLink RX2 21 "RevisionStores$Tree" "deletions" "[Z") (List.mem_of_getElem? (i := 5) rfl)) (fun _ h9 => h9) rfl dX2_find_46 ?_
              refine lv_iload hx hb dX2_find_49 (lv_at hl 0 rfl) ?_
              refine r_zald (j := k) (v := bI (dl k)) hx hb hK.1 hP 4 1 rfl rfl (by omega) (by first | decide | omega) rfl dX2_find_51 ?_
              refine lv_iload hx hb dX2_find_52 (lv_at hl 5 rfl) ?_
              refine r_icmp_neB (x := dl k) (y := b) (tgt := 60) hx hb dX2_find_54 (by decide) (fun c54 => ?_) (fun c54 => ?_)
              · refine lv_iinc (v := nI (k + 1)) (lv' := [(5, .int (nI (k + 1))), (0, .ref (a 0)), (1, .int (nI d)), (2, .int (eP o)), (3, .int v), (4, .int (bI b))]) hx hb dX2_find_60 hl (k := 0) rfl (nI_1 _) (by decide) rfl (fun ls hl => ?_)
                refine lv_goto (tgt := 3) hx hb dX2_find_63 (by decide) ?_
                exact ih3 (k + 1) (by first | assumption | omega) (ffd_no hno (by simp [fnd, c9, c20, c31, c42, c54])) (by omega)  ls  (lv_sub hl [0, 1, 2, 3, 4, 5] rfl)
              · refine lv_iload hx hb dX2_find_57 (lv_at hl 0 rfl) ?_
                refine r_top (y := eP (ffd (fnd dc pa va dl d o v b) n)) (by first | (rw [ffd_hit (n := n) hno (by simp [fnd, c9, c20, c31, c42, c54]) (by omega)]; rfl) | (rw [show n = k by omega, hno]; rfl)) ?_
                exact W.iret hx hb hr (fun t ht hW => ⟨_, rfl, rfl, ht⟩) (fun _ h => by cases h) dX2_find_59
  exact key3 ((n - 0) + 1) 0 (by first | assumption | omega) (rfl) (Nat.lt_succ_self _)  ls  (lv_sub hl [0, 1, 2, 3, 4, 5] rfl)
set_option maxHeartbeats 8000000 in
set_option maxRecDepth 100000 in
theorem cX2_isBetter_ok (l : Launch) (D : va_G) (ct : Nat → ClassId) (a : Nat → Nat) (n : Nat) (dc : Nat → Nat) (pa : Nat → Option Nat) (va : Nat → Int32) (dl : Nat → Bool) (ge : Nat → Nat) (su : Nat → Int32) (i : Nat) (j : Nat) (hTg : ∀ k, ge k ≤ 150) (hi : i < 150) (hj : j < 150) : Met l yX2_isBetter wsX2_isBetter ({ frames := 0, cells := 0, slots := 0, locals := 0 } : Room) (roPc D ct [.ref (a 0), .int (nI i), .int (nI j)] (wT ct a n dc pa va dl ge su)) (rqI (bI (btr dl ge su i j))) 0 0 (fun _ => False) := by
  refine Met.ofW (cc := cX2_isBetter) (maxL := 3) (ret := (some .boolean)) (by decide) rfl ?_
  intro p e s m args below meth c s₁ B hml hv
  obtain ⟨rfl, hP, hK⟩ := hv
  have hx := B.exec
  have hb := B.bytes
  have hr := B.returns
  have hts := atoms_spec (ws := wsX2_isBetter) B.pre
  have hown : s.vm.findClass RX2 = some m.cls := findClass_of_methodNamed B.named
  have hlocks := B.notSynchronized
  have hl := lv_entry ([.ref (a 0), .int (nI i), .int (nI j)]) (n := 3) (Nat.le_of_ble_eq_true rfl)
  rw [lg_entry_eq]
  generalize (lg_sl ([.ref (a 0), .int (nI i), .int (nI j)]) ++ List.replicate (3 - (lg_sl ([.ref (a 0), .int (nI i), .int (nI j)])).length) Slot.unset).toArray = ls at hl ⊢
  have hl : lv_has ls 3 [(0, .ref (a 0)), (1, .int (nI i)), (2, .int (nI j))] := hl
  refine lv_aload_n hx hb dX2_isBetter_0 rfl (lv_at hl 0 rfl) ?_
  refine va_get (D := D) (ci := 2) (v := .ref (a 4)) (C := RX2) (T := TX2) (N := 7) hx hb hts (fun _ h => List.mem_cons_of_mem _ (List.mem_append_right _ h)) hown hK.1 hP 0 rfl rfl 3 (by decide) (hts (.fieldLink RX2 21 "RevisionStores$Tree" "deletions" "[Z") (List.mem_of_getElem? (i := 1) rfl)) (fun _ h9 => h9) rfl dX2_isBetter_1 ?_
  refine lv_iload_n hx hb dX2_isBetter_4 rfl (lv_at hl 1 rfl) ?_
  refine r_zald (j := i) (v := bI (dl i)) hx hb hK.1 hP 4 1 rfl rfl (by omega) (by first | decide | omega) rfl dX2_isBetter_5 ?_
  refine lv_aload_n hx hb dX2_isBetter_6 rfl (lv_at hl 0 rfl) ?_
  refine va_get (D := D) (ci := 2) (v := .ref (a 4)) (C := RX2) (T := TX2) (N := 7) hx hb hts (fun _ h => List.mem_cons_of_mem _ (List.mem_append_right _ h)) hown hK.1 hP 0 rfl rfl 3 (by decide) (hts (.fieldLink RX2 21 "RevisionStores$Tree" "deletions" "[Z") (List.mem_of_getElem? (i := 1) rfl)) (fun _ h9 => h9) rfl dX2_isBetter_7 ?_
  refine lv_iload_n hx hb dX2_isBetter_10 rfl (lv_at hl 2 rfl) ?_
  refine r_zald (j := j) (v := bI (dl j)) hx hb hK.1 hP 4 1 rfl rfl (by omega) (by first | decide | omega) rfl dX2_isBetter_11 ?_
  refine r_icmp_eqB (x := dl i) (y := dl j) (tgt := 22) hx hb dX2_isBetter_12 (by decide) (fun c12 => ?_) (fun c12 => ?_)
  · refine lv_aload_n hx hb dX2_isBetter_22 rfl (lv_at hl 0 rfl) ?_
    refine va_get (D := D) (ci := 2) (v := .ref (a 5)) (C := RX2) (T := TX2) (N := 7) hx hb hts (fun _ h => List.mem_cons_of_mem _ (List.mem_append_right _ h)) hown hK.1 hP 0 rfl rfl 4 (by decide) (hts (.fieldLink RX2 25 "RevisionStores$Tree" "generations" "[I") (List.mem_of_getElem? (i := 2) rfl)) (fun _ h9 => h9) rfl dX2_isBetter_23 ?_
    refine lv_iload_n hx hb dX2_isBetter_26 rfl (lv_at hl 1 rfl) ?_
    refine r_iald (j := i) (v := nI (ge i)) hx hb hK.1 hP 5 0 rfl rfl (by omega) (by first | decide | omega) rfl dX2_isBetter_27 ?_
    have f27 := hTg i
    refine lv_aload_n hx hb dX2_isBetter_28 rfl (lv_at hl 0 rfl) ?_
    refine va_get (D := D) (ci := 2) (v := .ref (a 5)) (C := RX2) (T := TX2) (N := 7) hx hb hts (fun _ h => List.mem_cons_of_mem _ (List.mem_append_right _ h)) hown hK.1 hP 0 rfl rfl 4 (by decide) (hts (.fieldLink RX2 25 "RevisionStores$Tree" "generations" "[I") (List.mem_of_getElem? (i := 2) rfl)) (fun _ h9 => h9) rfl dX2_isBetter_29 ?_
    refine lv_iload_n hx hb dX2_isBetter_32 rfl (lv_at hl 2 rfl) ?_
    refine r_iald (j := j) (v := nI (ge j)) hx hb hK.1 hP 5 0 rfl rfl (by omega) (by first | decide | omega) rfl dX2_isBetter_33 ?_
    have f33 := hTg j
    refine r_icmp_eqN hx hb (x := ge i) (y := ge j) (by first | omega | decide) (by first | omega | decide) (tgt := 58) dX2_isBetter_34 (by decide) (fun c34 => ?_) (fun c34 => ?_)
    · refine lv_aload_n hx hb dX2_isBetter_58 rfl (lv_at hl 0 rfl) ?_
      refine va_get (D := D) (ci := 2) (v := .ref (a 6)) (C := RX2) (T := TX2) (N := 7) hx hb hts (fun _ h => List.mem_cons_of_mem _ (List.mem_append_right _ h)) hown hK.1 hP 0 rfl rfl 5 (by decide) (hts (.fieldLink RX2 28 "RevisionStores$Tree" "sums" "[I") (List.mem_of_getElem? (i := 3) rfl)) (fun _ h9 => h9) rfl dX2_isBetter_59 ?_
      refine lv_iload_n hx hb dX2_isBetter_62 rfl (lv_at hl 1 rfl) ?_
      refine r_iald (j := i) (v := su i) hx hb hK.1 hP 6 0 rfl rfl (by omega) (by first | decide | omega) rfl dX2_isBetter_63 ?_
      refine lv_aload_n hx hb dX2_isBetter_64 rfl (lv_at hl 0 rfl) ?_
      refine va_get (D := D) (ci := 2) (v := .ref (a 6)) (C := RX2) (T := TX2) (N := 7) hx hb hts (fun _ h => List.mem_cons_of_mem _ (List.mem_append_right _ h)) hown hK.1 hP 0 rfl rfl 5 (by decide) (hts (.fieldLink RX2 28 "RevisionStores$Tree" "sums" "[I") (List.mem_of_getElem? (i := 3) rfl)) (fun _ h9 => h9) rfl dX2_isBetter_65 ?_
      refine lv_iload_n hx hb dX2_isBetter_68 rfl (lv_at hl 2 rfl) ?_
      refine r_iald (j := j) (v := su j) hx hb hK.1 hP 6 0 rfl rfl (by omega) (by first | decide | omega) rfl dX2_isBetter_69 ?_
      refine lv_icmp_eq (x := su i) (y := su j) (tgt := 94) hx hb dX2_isBetter_70 (by decide) (fun c70 => ?_) (fun c70 => ?_)
      · refine lv_iload_n hx hb dX2_isBetter_94 rfl (lv_at hl 1 rfl) ?_
        refine lv_iload_n hx hb dX2_isBetter_95 rfl (lv_at hl 2 rfl) ?_
        refine r_icmp_geN hx hb (x := i) (y := j) (by first | omega | decide) (by first | omega | decide) (tgt := 103) dX2_isBetter_96 (by decide) (fun c96 => ?_) (fun c96 => ?_)
        · refine lv_iconst (v := nI 0) hx hb dX2_isBetter_103 (by decide) ?_
          refine r_top (y := bI (btr dl ge su i j)) (by simp [btr, bI, c12, c34, c70, c96]) ?_
          exact W.zret hx hb hr (bI_narrow _) (fun t ht hW => ⟨_, rfl, rfl, ht⟩) (fun _ h => by cases h) dX2_isBetter_104
        · refine lv_iconst (v := nI 1) hx hb dX2_isBetter_99 (by decide) ?_
          refine lv_goto (tgt := 104) hx hb dX2_isBetter_100 (by decide) ?_
          refine r_top (y := bI (btr dl ge su i j)) (by simp [btr, bI, c12, c34, c70, c96]) ?_
          exact W.zret hx hb hr (bI_narrow _) (fun t ht hW => ⟨_, rfl, rfl, ht⟩) (fun _ h => by cases h) dX2_isBetter_104
      · refine lv_aload_n hx hb dX2_isBetter_73 rfl (lv_at hl 0 rfl) ?_
        refine va_get (D := D) (ci := 2) (v := .ref (a 6)) (C := RX2) (T := TX2) (N := 7) hx hb hts (fun _ h => List.mem_cons_of_mem _ (List.mem_append_right _ h)) hown hK.1 hP 0 rfl rfl 5 (by decide) (hts (.fieldLink RX2 28 "RevisionStores$Tree" "sums" "[I") (List.mem_of_getElem? (i := 3) rfl)) (fun _ h9 => h9) rfl dX2_isBetter_74 ?_
        refine lv_iload_n hx hb dX2_isBetter_77 rfl (lv_at hl 1 rfl) ?_
        refine r_iald (j := i) (v := su i) hx hb hK.1 hP 6 0 rfl rfl (by omega) (by first | decide | omega) rfl dX2_isBetter_78 ?_
        refine lv_aload_n hx hb dX2_isBetter_79 rfl (lv_at hl 0 rfl) ?_
        refine va_get (D := D) (ci := 2) (v := .ref (a 6)) (C := RX2) (T := TX2) (N := 7) hx hb hts (fun _ h => List.mem_cons_of_mem _ (List.mem_append_right _ h)) hown hK.1 hP 0 rfl rfl 5 (by decide) (hts (.fieldLink RX2 28 "RevisionStores$Tree" "sums" "[I") (List.mem_of_getElem? (i := 3) rfl)) (fun _ h9 => h9) rfl dX2_isBetter_80 ?_
        refine lv_iload_n hx hb dX2_isBetter_83 rfl (lv_at hl 2 rfl) ?_
        refine r_iald (j := j) (v := su j) hx hb hK.1 hP 6 0 rfl rfl (by omega) (by first | decide | omega) rfl dX2_isBetter_84 ?_
        refine lv_icmp_le (x := su i) (y := su j) (tgt := 92) hx hb dX2_isBetter_85 (by decide) (fun c85 => ?_) (fun c85 => ?_)
        · refine lv_iconst (v := nI 0) hx hb dX2_isBetter_92 (by decide) ?_
          refine r_top (y := bI (btr dl ge su i j)) (by simp [btr, bI, c12, c34, c70, c85]) ?_
          exact W.zret hx hb hr (bI_narrow _) (fun t ht hW => ⟨_, rfl, rfl, ht⟩) (fun _ h => by cases h) dX2_isBetter_93
        · refine lv_iconst (v := nI 1) hx hb dX2_isBetter_88 (by decide) ?_
          refine lv_goto (tgt := 93) hx hb dX2_isBetter_89 (by decide) ?_
          refine r_top (y := bI (btr dl ge su i j)) (by simp [btr, bI, c12, c34, c70, c85]) ?_
          exact W.zret hx hb hr (bI_narrow _) (fun t ht hW => ⟨_, rfl, rfl, ht⟩) (fun _ h => by cases h) dX2_isBetter_93
    · refine lv_aload_n hx hb dX2_isBetter_37 rfl (lv_at hl 0 rfl) ?_
      refine va_get (D := D) (ci := 2) (v := .ref (a 5)) (C := RX2) (T := TX2) (N := 7) hx hb hts (fun _ h => List.mem_cons_of_mem _ (List.mem_append_right _ h)) hown hK.1 hP 0 rfl rfl 4 (by decide) (hts (.fieldLink RX2 25 "RevisionStores$Tree" "generations" "[I") (List.mem_of_getElem? (i := 2) rfl)) (fun _ h9 => h9) rfl dX2_isBetter_38 ?_
      refine lv_iload_n hx hb dX2_isBetter_41 rfl (lv_at hl 1 rfl) ?_
      refine r_iald (j := i) (v := nI (ge i)) hx hb hK.1 hP 5 0 rfl rfl (by omega) (by first | decide | omega) rfl dX2_isBetter_42 ?_
      have f42 := hTg i
      refine lv_aload_n hx hb dX2_isBetter_43 rfl (lv_at hl 0 rfl) ?_
      refine va_get (D := D) (ci := 2) (v := .ref (a 5)) (C := RX2) (T := TX2) (N := 7) hx hb hts (fun _ h => List.mem_cons_of_mem _ (List.mem_append_right _ h)) hown hK.1 hP 0 rfl rfl 4 (by decide) (hts (.fieldLink RX2 25 "RevisionStores$Tree" "generations" "[I") (List.mem_of_getElem? (i := 2) rfl)) (fun _ h9 => h9) rfl dX2_isBetter_44 ?_
      refine lv_iload_n hx hb dX2_isBetter_47 rfl (lv_at hl 2 rfl) ?_
      refine r_iald (j := j) (v := nI (ge j)) hx hb hK.1 hP 5 0 rfl rfl (by omega) (by first | decide | omega) rfl dX2_isBetter_48 ?_
      have f48 := hTg j
      refine r_icmp_leN hx hb (x := ge i) (y := ge j) (by first | omega | decide) (by first | omega | decide) (tgt := 56) dX2_isBetter_49 (by decide) (fun c49 => ?_) (fun c49 => ?_)
      · refine lv_iconst (v := nI 0) hx hb dX2_isBetter_56 (by decide) ?_
        refine r_top (y := bI (btr dl ge su i j)) (by simp [btr, bI, c12, c34, c49]) ?_
        exact W.zret hx hb hr (bI_narrow _) (fun t ht hW => ⟨_, rfl, rfl, ht⟩) (fun _ h => by cases h) dX2_isBetter_57
      · refine lv_iconst (v := nI 1) hx hb dX2_isBetter_52 (by decide) ?_
        refine lv_goto (tgt := 57) hx hb dX2_isBetter_53 (by decide) ?_
        refine r_top (y := bI (btr dl ge su i j)) (by simp [btr, bI, c12, c34, c49]) ?_
        exact W.zret hx hb hr (bI_narrow _) (fun t ht hW => ⟨_, rfl, rfl, ht⟩) (fun _ h => by cases h) dX2_isBetter_57
  · refine lv_aload_n hx hb dX2_isBetter_15 rfl (lv_at hl 0 rfl) ?_
    refine va_get (D := D) (ci := 2) (v := .ref (a 4)) (C := RX2) (T := TX2) (N := 7) hx hb hts (fun _ h => List.mem_cons_of_mem _ (List.mem_append_right _ h)) hown hK.1 hP 0 rfl rfl 3 (by decide) (hts (.fieldLink RX2 21 "RevisionStores$Tree" "deletions" "[Z") (List.mem_of_getElem? (i := 1) rfl)) (fun _ h9 => h9) rfl dX2_isBetter_16 ?_
    refine lv_iload_n hx hb dX2_isBetter_19 rfl (lv_at hl 2 rfl) ?_
    refine r_zald (j := j) (v := bI (dl j)) hx hb hK.1 hP 4 1 rfl rfl (by omega) (by first | decide | omega) rfl dX2_isBetter_20 ?_
    refine r_top (y := bI (btr dl ge su i j)) (by simp [btr, bI, c12]) ?_
    exact W.zret hx hb hr (bI_narrow _) (fun t ht hW => ⟨_, rfl, rfl, ht⟩) (fun _ h => by cases h) dX2_isBetter_21
set_option maxHeartbeats 8000000 in
set_option maxRecDepth 100000 in
theorem cX2_make_ok (l : Launch) (D : va_G) (ct : Nat → ClassId) (a : Nat → Nat) (n : Nat) (dc : Nat → Nat) (pa : Nat → Option Nat) (va : Nat → Int32) (dl : Nat → Bool) (ge : Nat → Nat) (su : Nat → Int32) (d : Nat) (o : Option Nat) (v : Int32) (b : Bool) (hn : n < 150) (hTg : ∀ k, ge k ≤ 150) (ho : ∀ j, o = some j → j < n) (sz : Nat) : Met l yX2_make wsX2_make ({ frames := 0, cells := 0, slots := 0, locals := 0 } : Room) (wrPc D ct [.ref (a 0), .int (nI d), .int (eP o), .int v, .int (bI b)] (wT ct a n dc pa va dl ge su) sz) (wqI D (nI n) (wT ct a (n + 1) (va_up dc n d) (va_up pa n o) (va_up va n v) (va_up dl n b) (va_up ge n (mkg ge o)) (va_up su n (mksu ge su o v b))) (va_A (wT ct a n dc pa va dl ge su) sz)) 0 0 (va_A (wT ct a n dc pa va dl ge su) sz) := by
  refine Met.ofW (cc := cX2_make) (maxL := 8) (ret := (some .int)) (by decide) rfl ?_
  intro p e s m args below meth c s₁ B hml hv
  obtain ⟨rfl, hsz, hP, hK, hD0⟩ := hv
  have hx := B.exec
  have hb := B.bytes
  have hr := B.returns
  have hts := atoms_spec (ws := wsX2_make) B.pre
  have hown : s.vm.findClass RX2 = some m.cls := findClass_of_methodNamed B.named
  have hlocks := B.notSynchronized
  subst hsz
  have hD := hD0.self (sz := s.heap.size)
  generalize hAe : va_A (wT ct a n dc pa va dl ge su) s.heap.size = A at hD ⊢
  have hA : ∀ q : Nat, s.heap.size ≤ q → A q := fun q h => by rw [← hAe]; exact Or.inr h
  have hS : va_S A s.heap s.heap [] := va_S.rf
  have hP : va_P D vwCl (wT ct a n dc pa va dl ge su) s.heap := hP
  clear hAe hD0
  have hl := lv_entry ([.ref (a 0), .int (nI d), .int (eP o), .int v, .int (bI b)]) (n := 8) (Nat.le_of_ble_eq_true rfl)
  rw [lg_entry_eq]
  generalize (lg_sl ([.ref (a 0), .int (nI d), .int (eP o), .int v, .int (bI b)]) ++ List.replicate (8 - (lg_sl ([.ref (a 0), .int (nI d), .int (eP o), .int v, .int (bI b)])).length) Slot.unset).toArray = ls at hl ⊢
  have hl : lv_has ls 8 [(0, .ref (a 0)), (1, .int (nI d)), (2, .int (eP o)), (3, .int v), (4, .int (bI b))] := hl
  have hH0 : s.heap.size ≤ s.heap.size := Nat.le_refl _
  refine lv_aload_n hx hb dX2_make_0 rfl (lv_at hl 0 rfl) ?_
  refine va_get (D := D) (ci := 2) (v := .int (nI n)) (C := RX2) (T := TX2) (N := 7) hx hb hts (fun _ h => List.mem_cons_of_mem _ (List.mem_append_right _ h)) hown hK.1 hP 0 rfl rfl 6 (by decide) (hts (.fieldLink RX2 31 "RevisionStores$Tree" "made" "I") (List.mem_of_getElem? (i := 1) rfl)) (fun _ h9 => h9) rfl dX2_make_1 ?_
  refine lv_istore (lv' := [(5, .int (nI n)), (0, .ref (a 0)), (1, .int (nI d)), (2, .int (eP o)), (3, .int v), (4, .int (bI b))]) hx hb dX2_make_4 hl (by decide) rfl (fun ls hl => ?_)
  refine lv_iload_n hx hb dX2_make_6 rfl (lv_at hl 3 rfl) ?_
  refine lv_iconst (v := -1) hx hb dX2_make_7 (by decide) ?_
  refine r_icmp_neP hx hb (x := o) (by intro j9 h9; have := ho _ h9; omega) (tgt := 15) dX2_make_8 (by decide) (fun j8 c8 => ?_) (fun c8 => ?_)
  · have hl := lv_re (f := fun z9 => [(5, .int (nI n)), (0, .ref (a 0)), (1, .int (nI d)), (2, .int z9), (3, .int v), (4, .int (bI b))]) hl (show eP o = nI j8 from congrArg eP c8)
    refine lv_aload_n hx hb dX2_make_15 rfl (lv_at hl 1 rfl) ?_
    refine va_get (D := D) (ci := 2) (v := .ref (a 5)) (C := RX2) (T := TX2) (N := 7) hx hb hts (fun _ h => List.mem_cons_of_mem _ (List.mem_append_right _ h)) hown hK.1 hP 0 rfl rfl 4 (by decide) (hts (.fieldLink RX2 25 "RevisionStores$Tree" "generations" "[I") (List.mem_of_getElem? (i := 2) rfl)) (fun _ h9 => h9) rfl dX2_make_16 ?_
    refine lv_iload_n hx hb dX2_make_19 rfl (lv_at hl 3 rfl) ?_
    refine r_iald (j := j8) (v := nI (ge j8)) hx hb hK.1 hP 5 0 rfl rfl (by have := ho _ c8; omega) (by first | decide | omega) rfl dX2_make_20 ?_
    have f20 := hTg j8
    refine lv_iconst (v := nI 1) hx hb dX2_make_21 (by decide) ?_
    refine r_iaddN hx hb dX2_make_22 ?_
    refine lv_istore (lv' := [(6, .int (nI ((ge j8) + 1))), (5, .int (nI n)), (0, .ref (a 0)), (1, .int (nI d)), (2, .int (nI j8)), (3, .int v), (4, .int (bI b))]) hx hb dX2_make_23 hl (by decide) rfl (fun ls hl => ?_)
    refine lv_iload_n hx hb dX2_make_25 rfl (lv_at hl 4 rfl) ?_
    refine lv_iconst (v := -1) hx hb dX2_make_26 (by decide) ?_
    refine r_icmp_neN1 hx hb (x := j8) (by first | omega | decide) (tgt := 35) dX2_make_27 (by decide) ?_
    refine lv_bipush (v := nI 31) hx hb dX2_make_35 (by decide) ?_
    refine lv_aload_n hx hb dX2_make_37 rfl (lv_at hl 2 rfl) ?_
    refine va_get (D := D) (ci := 2) (v := .ref (a 6)) (C := RX2) (T := TX2) (N := 7) hx hb hts (fun _ h => List.mem_cons_of_mem _ (List.mem_append_right _ h)) hown hK.1 hP 0 rfl rfl 5 (by decide) (hts (.fieldLink RX2 28 "RevisionStores$Tree" "sums" "[I") (List.mem_of_getElem? (i := 3) rfl)) (fun _ h9 => h9) rfl dX2_make_38 ?_
    refine lv_iload_n hx hb dX2_make_41 rfl (lv_at hl 4 rfl) ?_
    refine r_iald (j := j8) (v := su j8) hx hb hK.1 hP 6 0 rfl rfl (by have := ho _ c8; omega) (by first | decide | omega) rfl dX2_make_42 ?_
    refine lv_imul hx hb dX2_make_43 ?_
    refine lv_istore (lv' := [(7, .int ((nI 31) * (su j8))), (6, .int (nI ((ge j8) + 1))), (5, .int (nI n)), (0, .ref (a 0)), (1, .int (nI d)), (2, .int (nI j8)), (3, .int v), (4, .int (bI b))]) hx hb dX2_make_44 hl (by decide) rfl (fun ls hl => ?_)
    refine lv_aload_n hx hb dX2_make_46 rfl (lv_at hl 3 rfl) ?_
    refine va_get (D := D) (ci := 2) (v := .ref (a 1)) (C := RX2) (T := TX2) (N := 7) hx hb hts (fun _ h => List.mem_cons_of_mem _ (List.mem_append_right _ h)) hown hK.1 hP 0 rfl rfl 0 (by decide) (hts (.fieldLink RX2 9 "RevisionStores$Tree" "documents" "[I") (List.mem_of_getElem? (i := 4) rfl)) (fun _ h9 => h9) rfl dX2_make_47 ?_
    refine lv_iload hx hb dX2_make_50 (lv_at hl 2 rfl) ?_
    refine lv_iload_n hx hb dX2_make_52 rfl (lv_at hl 4 rfl) ?_
    refine r_iast (j := n) (x := (nI d)) (f' := fun k => nI ((va_up dc n d) k)) hx hb hK.1 hP hD hS 1 0 rfl rfl (by omega) (by first | decide | omega) (up_n _ _ _) dX2_make_53 (fun H locs hP hD hS => ?_)
    have hP : va_P D vwCl (wT ct a n (va_up dc n d) pa va dl ge su) H := hP
    have hD : va_D A (wT ct a n (va_up dc n d) pa va dl ge su) := hD
    refine lv_aload_n hx hb dX2_make_54 rfl (lv_at hl 3 rfl) ?_
    refine va_get (D := D) (ci := 2) (v := .ref (a 2)) (C := RX2) (T := TX2) (N := 7) hx hb hts (fun _ h => List.mem_cons_of_mem _ (List.mem_append_right _ h)) hown hK.1 hP 0 rfl rfl 1 (by decide) (hts (.fieldLink RX2 15 "RevisionStores$Tree" "parents" "[I") (List.mem_of_getElem? (i := 5) rfl)) (fun _ h9 => h9) rfl dX2_make_55 ?_
    refine lv_iload hx hb dX2_make_58 (lv_at hl 2 rfl) ?_
    refine lv_iload_n hx hb dX2_make_60 rfl (lv_at hl 5 rfl) ?_
    refine r_iast (j := n) (x := (eP (some j8))) (f' := fun k => eP ((va_up pa n (some j8)) k)) hx hb hK.1 hP hD hS 2 0 rfl rfl (by omega) (by first | decide | omega) (up_p _ _ _) dX2_make_61 (fun H locs hP hD hS => ?_)
    have hP : va_P D vwCl (wT ct a n (va_up dc n d) (va_up pa n (some j8)) va dl ge su) H := hP
    have hD : va_D A (wT ct a n (va_up dc n d) (va_up pa n (some j8)) va dl ge su) := hD
    refine lv_aload_n hx hb dX2_make_62 rfl (lv_at hl 3 rfl) ?_
    refine va_get (D := D) (ci := 2) (v := .ref (a 3)) (C := RX2) (T := TX2) (N := 7) hx hb hts (fun _ h => List.mem_cons_of_mem _ (List.mem_append_right _ h)) hown hK.1 hP 0 rfl rfl 2 (by decide) (hts (.fieldLink RX2 18 "RevisionStores$Tree" "values" "[I") (List.mem_of_getElem? (i := 6) rfl)) (fun _ h9 => h9) rfl dX2_make_63 ?_
    refine lv_iload hx hb dX2_make_66 (lv_at hl 2 rfl) ?_
    refine lv_iload_n hx hb dX2_make_68 rfl (lv_at hl 6 rfl) ?_
    refine r_iast (j := n) (x := v) (f' := va_up va n v) hx hb hK.1 hP hD hS 3 0 rfl rfl (by omega) (by first | decide | omega) (up_i _ _ _) dX2_make_69 (fun H locs hP hD hS => ?_)
    have hP : va_P D vwCl (wT ct a n (va_up dc n d) (va_up pa n (some j8)) (va_up va n v) dl ge su) H := hP
    have hD : va_D A (wT ct a n (va_up dc n d) (va_up pa n (some j8)) (va_up va n v) dl ge su) := hD
    refine lv_aload_n hx hb dX2_make_70 rfl (lv_at hl 3 rfl) ?_
    refine va_get (D := D) (ci := 2) (v := .ref (a 4)) (C := RX2) (T := TX2) (N := 7) hx hb hts (fun _ h => List.mem_cons_of_mem _ (List.mem_append_right _ h)) hown hK.1 hP 0 rfl rfl 3 (by decide) (hts (.fieldLink RX2 21 "RevisionStores$Tree" "deletions" "[Z") (List.mem_of_getElem? (i := 7) rfl)) (fun _ h9 => h9) rfl dX2_make_71 ?_
    refine lv_iload hx hb dX2_make_74 (lv_at hl 2 rfl) ?_
    refine lv_iload hx hb dX2_make_76 (lv_at hl 7 rfl) ?_
    refine r_zast (j := n) (x := b) (f' := fun k => bI ((va_up dl n b) k)) hx hb hK.1 hP hD hS 4 1 rfl rfl (by omega) (by first | decide | omega) (up_b _ _ _) dX2_make_78 (fun H locs hP hD hS => ?_)
    have hP : va_P D vwCl (wT ct a n (va_up dc n d) (va_up pa n (some j8)) (va_up va n v) (va_up dl n b) ge su) H := hP
    have hD : va_D A (wT ct a n (va_up dc n d) (va_up pa n (some j8)) (va_up va n v) (va_up dl n b) ge su) := hD
    refine lv_aload_n hx hb dX2_make_79 rfl (lv_at hl 3 rfl) ?_
    refine va_get (D := D) (ci := 2) (v := .ref (a 5)) (C := RX2) (T := TX2) (N := 7) hx hb hts (fun _ h => List.mem_cons_of_mem _ (List.mem_append_right _ h)) hown hK.1 hP 0 rfl rfl 4 (by decide) (hts (.fieldLink RX2 25 "RevisionStores$Tree" "generations" "[I") (List.mem_of_getElem? (i := 2) rfl)) (fun _ h9 => h9) rfl dX2_make_80 ?_
    refine lv_iload hx hb dX2_make_83 (lv_at hl 2 rfl) ?_
    refine lv_iload hx hb dX2_make_85 (lv_at hl 1 rfl) ?_
    refine r_iast (j := n) (x := (nI ((ge j8) + 1))) (f' := fun k => nI ((va_up ge n ((ge j8) + 1)) k)) hx hb hK.1 hP hD hS 5 0 rfl rfl (by omega) (by first | decide | omega) (up_n _ _ _) dX2_make_87 (fun H locs hP hD hS => ?_)
    have hP : va_P D vwCl (wT ct a n (va_up dc n d) (va_up pa n (some j8)) (va_up va n v) (va_up dl n b) (va_up ge n ((ge j8) + 1)) su) H := hP
    have hD : va_D A (wT ct a n (va_up dc n d) (va_up pa n (some j8)) (va_up va n v) (va_up dl n b) (va_up ge n ((ge j8) + 1)) su) := hD
    refine lv_aload_n hx hb dX2_make_88 rfl (lv_at hl 3 rfl) ?_
    refine va_get (D := D) (ci := 2) (v := .ref (a 6)) (C := RX2) (T := TX2) (N := 7) hx hb hts (fun _ h => List.mem_cons_of_mem _ (List.mem_append_right _ h)) hown hK.1 hP 0 rfl rfl 5 (by decide) (hts (.fieldLink RX2 28 "RevisionStores$Tree" "sums" "[I") (List.mem_of_getElem? (i := 3) rfl)) (fun _ h9 => h9) rfl dX2_make_89 ?_
    refine lv_iload hx hb dX2_make_92 (lv_at hl 2 rfl) ?_
    refine lv_iload hx hb dX2_make_94 (lv_at hl 0 rfl) ?_
    refine lv_bipush (v := nI 7) hx hb dX2_make_96 (by decide) ?_
    refine lv_iload_n hx hb dX2_make_98 rfl (lv_at hl 6 rfl) ?_
    refine lv_imul hx hb dX2_make_99 ?_
    refine lv_iadd hx hb dX2_make_100 ?_
    refine lv_iload hx hb dX2_make_101 (lv_at hl 1 rfl) ?_
    refine lv_iadd hx hb dX2_make_103 ?_
    refine lv_iload hx hb dX2_make_104 (lv_at hl 7 rfl) ?_
    refine r_if_eqB (x := b) (tgt := 113) hx hb dX2_make_106 (by decide) (fun c106 => ?_) (fun c106 => ?_)
    · refine lv_iconst (v := nI 0) hx hb dX2_make_113 (by decide) ?_
      refine lv_iadd hx hb dX2_make_114 ?_
      refine lv_sipush (v := nI 997) hx hb dX2_make_115 (by decide) ?_
      refine lv_irem hx hb dX2_make_118 (by decide) ?_
      refine r_top (y := mksu ge su o v b) (by simp [mksu, mkh, mkg, mkr, c8, c106]) ?_
      refine r_iast (j := n) (x := (mksu ge su o v b)) (f' := va_up su n (mksu ge su o v b)) hx hb hK.1 hP hD hS 6 0 rfl rfl (by omega) (by first | decide | omega) (up_i _ _ _) dX2_make_119 (fun H locs hP hD hS => ?_)
      have hP : va_P D vwCl (wT ct a n (va_up dc n d) (va_up pa n (some j8)) (va_up va n v) (va_up dl n b) (va_up ge n ((ge j8) + 1)) (va_up su n (mksu ge su o v b))) H := hP
      have hD : va_D A (wT ct a n (va_up dc n d) (va_up pa n (some j8)) (va_up va n v) (va_up dl n b) (va_up ge n ((ge j8) + 1)) (va_up su n (mksu ge su o v b))) := hD
      refine lv_aload_n hx hb dX2_make_120 rfl (lv_at hl 3 rfl) ?_
      refine lv_dup hx hb dX2_make_121 rfl ?_
      refine va_get (D := D) (ci := 2) (v := .int (nI n)) (C := RX2) (T := TX2) (N := 7) hx hb hts (fun _ h => List.mem_cons_of_mem _ (List.mem_append_right _ h)) hown hK.1 hP 0 rfl rfl 6 (by decide) (hts (.fieldLink RX2 31 "RevisionStores$Tree" "made" "I") (List.mem_of_getElem? (i := 1) rfl)) (fun _ h9 => h9) rfl dX2_make_122 ?_
      refine lv_iconst (v := nI 1) hx hb dX2_make_125 (by decide) ?_
      refine r_iaddN hx hb dX2_make_126 ?_
      refine va_put (D := D) (ci := 2) (v := .int (nI (n + 1))) (ty := .int) (C := RX2) (T := TX2) (N := 7) hx hb hts (fun _ h => List.mem_cons_of_mem _ (List.mem_append_right _ h)) tyX2 tyX2_ok nmX2 hown hK.1 hP hD hS 0 rfl rfl 6 (by decide) (hts (.fieldLink RX2 31 "RevisionStores$Tree" "made" "I") (List.mem_of_getElem? (i := 1) rfl)) (fun _ h9 => h9) rfl (by decide +kernel) rfl rfl (Nat.le_of_ble_eq_true rfl) dX2_make_127 (fun H locs hP hD hS => ?_)
      have hP : va_P D vwCl (wT ct a (n + 1) (va_up dc n d) (va_up pa n (some j8)) (va_up va n v) (va_up dl n b) (va_up ge n ((ge j8) + 1)) (va_up su n (mksu ge su o v b))) H := hP
      have hD : va_D A (wT ct a (n + 1) (va_up dc n d) (va_up pa n (some j8)) (va_up va n v) (va_up dl n b) (va_up ge n ((ge j8) + 1)) (va_up su n (mksu ge su o v b))) := hD
      refine lv_iload hx hb dX2_make_130 (lv_at hl 2 rfl) ?_
      have e9 : va_up pa n (some j8) = va_up pa n o := by simp [c8, c106]
      rw [e9] at hP
      have e9 : va_up ge n ((ge j8) + 1) = va_up ge n (mkg ge o) := by simp [mkg, c8, c106]
      rw [e9] at hP
      have hP : va_P D vwCl (wT ct a (n + 1) (va_up dc n d) (va_up pa n o) (va_up va n v) (va_up dl n b) (va_up ge n (mkg ge o)) (va_up su n (mksu ge su o v b))) H := hP
      exact W.iret hx hb hr (fun t ht hW => ⟨⟨_, (), rfl, rfl, by rw [ht]; exact hP⟩, hS.F ht⟩) hS.2.2 dX2_make_132
    · refine lv_iconst (v := nI 3) hx hb dX2_make_109 (by decide) ?_
      refine lv_goto (tgt := 114) hx hb dX2_make_110 (by decide) ?_
      refine lv_iadd hx hb dX2_make_114 ?_
      refine lv_sipush (v := nI 997) hx hb dX2_make_115 (by decide) ?_
      refine lv_irem hx hb dX2_make_118 (by decide) ?_
      refine r_top (y := mksu ge su o v b) (by simp [mksu, mkh, mkg, mkr, c8, c106]) ?_
      refine r_iast (j := n) (x := (mksu ge su o v b)) (f' := va_up su n (mksu ge su o v b)) hx hb hK.1 hP hD hS 6 0 rfl rfl (by omega) (by first | decide | omega) (up_i _ _ _) dX2_make_119 (fun H locs hP hD hS => ?_)
      have hP : va_P D vwCl (wT ct a n (va_up dc n d) (va_up pa n (some j8)) (va_up va n v) (va_up dl n b) (va_up ge n ((ge j8) + 1)) (va_up su n (mksu ge su o v b))) H := hP
      have hD : va_D A (wT ct a n (va_up dc n d) (va_up pa n (some j8)) (va_up va n v) (va_up dl n b) (va_up ge n ((ge j8) + 1)) (va_up su n (mksu ge su o v b))) := hD
      refine lv_aload_n hx hb dX2_make_120 rfl (lv_at hl 3 rfl) ?_
      refine lv_dup hx hb dX2_make_121 rfl ?_
      refine va_get (D := D) (ci := 2) (v := .int (nI n)) (C := RX2) (T := TX2) (N := 7) hx hb hts (fun _ h => List.mem_cons_of_mem _ (List.mem_append_right _ h)) hown hK.1 hP 0 rfl rfl 6 (by decide) (hts (.fieldLink RX2 31 "RevisionStores$Tree" "made" "I") (List.mem_of_getElem? (i := 1) rfl)) (fun _ h9 => h9) rfl dX2_make_122 ?_
      refine lv_iconst (v := nI 1) hx hb dX2_make_125 (by decide) ?_
      refine r_iaddN hx hb dX2_make_126 ?_
      refine va_put (D := D) (ci := 2) (v := .int (nI (n + 1))) (ty := .int) (C := RX2) (T := TX2) (N := 7) hx hb hts (fun _ h => List.mem_cons_of_mem _ (List.mem_append_right _ h)) tyX2 tyX2_ok nmX2 hown hK.1 hP hD hS 0 rfl rfl 6 (by decide) (hts (.fieldLink RX2 31 "RevisionStores$Tree" "made" "I") (List.mem_of_getElem? (i := 1) rfl)) (fun _ h9 => h9) rfl (by decide +kernel) rfl rfl (Nat.le_of_ble_eq_true rfl) dX2_make_127 (fun H locs hP hD hS => ?_)
      have hP : va_P D vwCl (wT ct a (n + 1) (va_up dc n d) (va_up pa n (some j8)) (va_up va n v) (va_up dl n b) (va_up ge n ((ge j8) + 1)) (va_up su n (mksu ge su o v b))) H := hP
      have hD : va_D A (wT ct a (n + 1) (va_up dc n d) (va_up pa n (some j8)) (va_up va n v) (va_up dl n b) (va_up ge n ((ge j8) + 1)) (va_up su n (mksu ge su o v b))) := hD
      refine lv_iload hx hb dX2_make_130 (lv_at hl 2 rfl) ?_
      have e9 : va_up pa n (some j8) = va_up pa n o := by simp [c8, c106]
      rw [e9] at hP
      have e9 : va_up ge n ((ge j8) + 1) = va_up ge n (mkg ge o) := by simp [mkg, c8, c106]
      rw [e9] at hP
      have hP : va_P D vwCl (wT ct a (n + 1) (va_up dc n d) (va_up pa n o) (va_up va n v) (va_up dl n b) (va_up ge n (mkg ge o)) (va_up su n (mksu ge su o v b))) H := hP
      exact W.iret hx hb hr (fun t ht hW => ⟨⟨_, (), rfl, rfl, by rw [ht]; exact hP⟩, hS.F ht⟩) hS.2.2 dX2_make_132
  · have hl := lv_re (f := fun z9 => [(5, .int (nI n)), (0, .ref (a 0)), (1, .int (nI d)), (2, .int z9), (3, .int v), (4, .int (bI b))]) hl (show eP o = eP none from congrArg eP c8)
    refine lv_iconst (v := nI 1) hx hb dX2_make_11 (by decide) ?_
    refine lv_goto (tgt := 23) hx hb dX2_make_12 (by decide) ?_
    refine lv_istore (lv' := [(6, .int (nI 1)), (5, .int (nI n)), (0, .ref (a 0)), (1, .int (nI d)), (2, .int (eP none)), (3, .int v), (4, .int (bI b))]) hx hb dX2_make_23 hl (by decide) rfl (fun ls hl => ?_)
    refine lv_iload_n hx hb dX2_make_25 rfl (lv_at hl 4 rfl) ?_
    refine lv_iconst (v := -1) hx hb dX2_make_26 (by decide) ?_
    refine lv_icmp_ne (x := -1) (y := -1) (tgt := 35) hx hb dX2_make_27 (by decide) (fun h => absurd rfl h) (fun _ => ?_)
    refine lv_bipush (v := nI 31) hx hb dX2_make_30 (by decide) ?_
    refine lv_goto (tgt := 44) hx hb dX2_make_32 (by decide) ?_
    refine lv_istore (lv' := [(7, .int (nI 31)), (6, .int (nI 1)), (5, .int (nI n)), (0, .ref (a 0)), (1, .int (nI d)), (2, .int (eP none)), (3, .int v), (4, .int (bI b))]) hx hb dX2_make_44 hl (by decide) rfl (fun ls hl => ?_)
    refine lv_aload_n hx hb dX2_make_46 rfl (lv_at hl 3 rfl) ?_
    refine va_get (D := D) (ci := 2) (v := .ref (a 1)) (C := RX2) (T := TX2) (N := 7) hx hb hts (fun _ h => List.mem_cons_of_mem _ (List.mem_append_right _ h)) hown hK.1 hP 0 rfl rfl 0 (by decide) (hts (.fieldLink RX2 9 "RevisionStores$Tree" "documents" "[I") (List.mem_of_getElem? (i := 4) rfl)) (fun _ h9 => h9) rfl dX2_make_47 ?_
    refine lv_iload hx hb dX2_make_50 (lv_at hl 2 rfl) ?_
    refine lv_iload_n hx hb dX2_make_52 rfl (lv_at hl 4 rfl) ?_
    refine r_iast (j := n) (x := (nI d)) (f' := fun k => nI ((va_up dc n d) k)) hx hb hK.1 hP hD hS 1 0 rfl rfl (by omega) (by first | decide | omega) (up_n _ _ _) dX2_make_53 (fun H locs hP hD hS => ?_)
    have hP : va_P D vwCl (wT ct a n (va_up dc n d) pa va dl ge su) H := hP
    have hD : va_D A (wT ct a n (va_up dc n d) pa va dl ge su) := hD
    refine lv_aload_n hx hb dX2_make_54 rfl (lv_at hl 3 rfl) ?_
    refine va_get (D := D) (ci := 2) (v := .ref (a 2)) (C := RX2) (T := TX2) (N := 7) hx hb hts (fun _ h => List.mem_cons_of_mem _ (List.mem_append_right _ h)) hown hK.1 hP 0 rfl rfl 1 (by decide) (hts (.fieldLink RX2 15 "RevisionStores$Tree" "parents" "[I") (List.mem_of_getElem? (i := 5) rfl)) (fun _ h9 => h9) rfl dX2_make_55 ?_
    refine lv_iload hx hb dX2_make_58 (lv_at hl 2 rfl) ?_
    refine lv_iload_n hx hb dX2_make_60 rfl (lv_at hl 5 rfl) ?_
    refine r_iast (j := n) (x := (eP none)) (f' := fun k => eP ((va_up pa n none) k)) hx hb hK.1 hP hD hS 2 0 rfl rfl (by omega) (by first | decide | omega) (up_p _ _ _) dX2_make_61 (fun H locs hP hD hS => ?_)
    have hP : va_P D vwCl (wT ct a n (va_up dc n d) (va_up pa n none) va dl ge su) H := hP
    have hD : va_D A (wT ct a n (va_up dc n d) (va_up pa n none) va dl ge su) := hD
    refine lv_aload_n hx hb dX2_make_62 rfl (lv_at hl 3 rfl) ?_
    refine va_get (D := D) (ci := 2) (v := .ref (a 3)) (C := RX2) (T := TX2) (N := 7) hx hb hts (fun _ h => List.mem_cons_of_mem _ (List.mem_append_right _ h)) hown hK.1 hP 0 rfl rfl 2 (by decide) (hts (.fieldLink RX2 18 "RevisionStores$Tree" "values" "[I") (List.mem_of_getElem? (i := 6) rfl)) (fun _ h9 => h9) rfl dX2_make_63 ?_
    refine lv_iload hx hb dX2_make_66 (lv_at hl 2 rfl) ?_
    refine lv_iload_n hx hb dX2_make_68 rfl (lv_at hl 6 rfl) ?_
    refine r_iast (j := n) (x := v) (f' := va_up va n v) hx hb hK.1 hP hD hS 3 0 rfl rfl (by omega) (by first | decide | omega) (up_i _ _ _) dX2_make_69 (fun H locs hP hD hS => ?_)
    have hP : va_P D vwCl (wT ct a n (va_up dc n d) (va_up pa n none) (va_up va n v) dl ge su) H := hP
    have hD : va_D A (wT ct a n (va_up dc n d) (va_up pa n none) (va_up va n v) dl ge su) := hD
    refine lv_aload_n hx hb dX2_make_70 rfl (lv_at hl 3 rfl) ?_
    refine va_get (D := D) (ci := 2) (v := .ref (a 4)) (C := RX2) (T := TX2) (N := 7) hx hb hts (fun _ h => List.mem_cons_of_mem _ (List.mem_append_right _ h)) hown hK.1 hP 0 rfl rfl 3 (by decide) (hts (.fieldLink RX2 21 "RevisionStores$Tree" "deletions" "[Z") (List.mem_of_getElem? (i := 7) rfl)) (fun _ h9 => h9) rfl dX2_make_71 ?_
    refine lv_iload hx hb dX2_make_74 (lv_at hl 2 rfl) ?_
    refine lv_iload hx hb dX2_make_76 (lv_at hl 7 rfl) ?_
    refine r_zast (j := n) (x := b) (f' := fun k => bI ((va_up dl n b) k)) hx hb hK.1 hP hD hS 4 1 rfl rfl (by omega) (by first | decide | omega) (up_b _ _ _) dX2_make_78 (fun H locs hP hD hS => ?_)
    have hP : va_P D vwCl (wT ct a n (va_up dc n d) (va_up pa n none) (va_up va n v) (va_up dl n b) ge su) H := hP
    have hD : va_D A (wT ct a n (va_up dc n d) (va_up pa n none) (va_up va n v) (va_up dl n b) ge su) := hD
    refine lv_aload_n hx hb dX2_make_79 rfl (lv_at hl 3 rfl) ?_
    refine va_get (D := D) (ci := 2) (v := .ref (a 5)) (C := RX2) (T := TX2) (N := 7) hx hb hts (fun _ h => List.mem_cons_of_mem _ (List.mem_append_right _ h)) hown hK.1 hP 0 rfl rfl 4 (by decide) (hts (.fieldLink RX2 25 "RevisionStores$Tree" "generations" "[I") (List.mem_of_getElem? (i := 2) rfl)) (fun _ h9 => h9) rfl dX2_make_80 ?_
    refine lv_iload hx hb dX2_make_83 (lv_at hl 2 rfl) ?_
    refine lv_iload hx hb dX2_make_85 (lv_at hl 1 rfl) ?_
    refine r_iast (j := n) (x := (nI 1)) (f' := fun k => nI ((va_up ge n 1) k)) hx hb hK.1 hP hD hS 5 0 rfl rfl (by omega) (by first | decide | omega) (up_n _ _ _) dX2_make_87 (fun H locs hP hD hS => ?_)
    have hP : va_P D vwCl (wT ct a n (va_up dc n d) (va_up pa n none) (va_up va n v) (va_up dl n b) (va_up ge n 1) su) H := hP
    have hD : va_D A (wT ct a n (va_up dc n d) (va_up pa n none) (va_up va n v) (va_up dl n b) (va_up ge n 1) su) := hD
    refine lv_aload_n hx hb dX2_make_88 rfl (lv_at hl 3 rfl) ?_
    refine va_get (D := D) (ci := 2) (v := .ref (a 6)) (C := RX2) (T := TX2) (N := 7) hx hb hts (fun _ h => List.mem_cons_of_mem _ (List.mem_append_right _ h)) hown hK.1 hP 0 rfl rfl 5 (by decide) (hts (.fieldLink RX2 28 "RevisionStores$Tree" "sums" "[I") (List.mem_of_getElem? (i := 3) rfl)) (fun _ h9 => h9) rfl dX2_make_89 ?_
    refine lv_iload hx hb dX2_make_92 (lv_at hl 2 rfl) ?_
    refine lv_iload hx hb dX2_make_94 (lv_at hl 0 rfl) ?_
    refine lv_bipush (v := nI 7) hx hb dX2_make_96 (by decide) ?_
    refine lv_iload_n hx hb dX2_make_98 rfl (lv_at hl 6 rfl) ?_
    refine lv_imul hx hb dX2_make_99 ?_
    refine lv_iadd hx hb dX2_make_100 ?_
    refine lv_iload hx hb dX2_make_101 (lv_at hl 1 rfl) ?_
    refine lv_iadd hx hb dX2_make_103 ?_
    refine lv_iload hx hb dX2_make_104 (lv_at hl 7 rfl) ?_
    refine r_if_eqB (x := b) (tgt := 113) hx hb dX2_make_106 (by decide) (fun c106 => ?_) (fun c106 => ?_)
    · refine lv_iconst (v := nI 0) hx hb dX2_make_113 (by decide) ?_
      refine lv_iadd hx hb dX2_make_114 ?_
      refine lv_sipush (v := nI 997) hx hb dX2_make_115 (by decide) ?_
      refine lv_irem hx hb dX2_make_118 (by decide) ?_
      refine r_top (y := mksu ge su o v b) (by simp [mksu, mkh, mkg, mkr, c8, c106]) ?_
      refine r_iast (j := n) (x := (mksu ge su o v b)) (f' := va_up su n (mksu ge su o v b)) hx hb hK.1 hP hD hS 6 0 rfl rfl (by omega) (by first | decide | omega) (up_i _ _ _) dX2_make_119 (fun H locs hP hD hS => ?_)
      have hP : va_P D vwCl (wT ct a n (va_up dc n d) (va_up pa n none) (va_up va n v) (va_up dl n b) (va_up ge n 1) (va_up su n (mksu ge su o v b))) H := hP
      have hD : va_D A (wT ct a n (va_up dc n d) (va_up pa n none) (va_up va n v) (va_up dl n b) (va_up ge n 1) (va_up su n (mksu ge su o v b))) := hD
      refine lv_aload_n hx hb dX2_make_120 rfl (lv_at hl 3 rfl) ?_
      refine lv_dup hx hb dX2_make_121 rfl ?_
      refine va_get (D := D) (ci := 2) (v := .int (nI n)) (C := RX2) (T := TX2) (N := 7) hx hb hts (fun _ h => List.mem_cons_of_mem _ (List.mem_append_right _ h)) hown hK.1 hP 0 rfl rfl 6 (by decide) (hts (.fieldLink RX2 31 "RevisionStores$Tree" "made" "I") (List.mem_of_getElem? (i := 1) rfl)) (fun _ h9 => h9) rfl dX2_make_122 ?_
      refine lv_iconst (v := nI 1) hx hb dX2_make_125 (by decide) ?_
      refine r_iaddN hx hb dX2_make_126 ?_
      refine va_put (D := D) (ci := 2) (v := .int (nI (n + 1))) (ty := .int) (C := RX2) (T := TX2) (N := 7) hx hb hts (fun _ h => List.mem_cons_of_mem _ (List.mem_append_right _ h)) tyX2 tyX2_ok nmX2 hown hK.1 hP hD hS 0 rfl rfl 6 (by decide) (hts (.fieldLink RX2 31 "RevisionStores$Tree" "made" "I") (List.mem_of_getElem? (i := 1) rfl)) (fun _ h9 => h9) rfl (by decide +kernel) rfl rfl (Nat.le_of_ble_eq_true rfl) dX2_make_127 (fun H locs hP hD hS => ?_)
      have hP : va_P D vwCl (wT ct a (n + 1) (va_up dc n d) (va_up pa n none) (va_up va n v) (va_up dl n b) (va_up ge n 1) (va_up su n (mksu ge su o v b))) H := hP
      have hD : va_D A (wT ct a (n + 1) (va_up dc n d) (va_up pa n none) (va_up va n v) (va_up dl n b) (va_up ge n 1) (va_up su n (mksu ge su o v b))) := hD
      refine lv_iload hx hb dX2_make_130 (lv_at hl 2 rfl) ?_
      have e9 : va_up pa n none = va_up pa n o := by simp [c8, c106]
      rw [e9] at hP
      have e9 : va_up ge n 1 = va_up ge n (mkg ge o) := by simp [mkg, c8, c106]
      rw [e9] at hP
      have hP : va_P D vwCl (wT ct a (n + 1) (va_up dc n d) (va_up pa n o) (va_up va n v) (va_up dl n b) (va_up ge n (mkg ge o)) (va_up su n (mksu ge su o v b))) H := hP
      exact W.iret hx hb hr (fun t ht hW => ⟨⟨_, (), rfl, rfl, by rw [ht]; exact hP⟩, hS.F ht⟩) hS.2.2 dX2_make_132
    · refine lv_iconst (v := nI 3) hx hb dX2_make_109 (by decide) ?_
      refine lv_goto (tgt := 114) hx hb dX2_make_110 (by decide) ?_
      refine lv_iadd hx hb dX2_make_114 ?_
      refine lv_sipush (v := nI 997) hx hb dX2_make_115 (by decide) ?_
      refine lv_irem hx hb dX2_make_118 (by decide) ?_
      refine r_top (y := mksu ge su o v b) (by simp [mksu, mkh, mkg, mkr, c8, c106]) ?_
      refine r_iast (j := n) (x := (mksu ge su o v b)) (f' := va_up su n (mksu ge su o v b)) hx hb hK.1 hP hD hS 6 0 rfl rfl (by omega) (by first | decide | omega) (up_i _ _ _) dX2_make_119 (fun H locs hP hD hS => ?_)
      have hP : va_P D vwCl (wT ct a n (va_up dc n d) (va_up pa n none) (va_up va n v) (va_up dl n b) (va_up ge n 1) (va_up su n (mksu ge su o v b))) H := hP
      have hD : va_D A (wT ct a n (va_up dc n d) (va_up pa n none) (va_up va n v) (va_up dl n b) (va_up ge n 1) (va_up su n (mksu ge su o v b))) := hD
      refine lv_aload_n hx hb dX2_make_120 rfl (lv_at hl 3 rfl) ?_
      refine lv_dup hx hb dX2_make_121 rfl ?_
      refine va_get (D := D) (ci := 2) (v := .int (nI n)) (C := RX2) (T := TX2) (N := 7) hx hb hts (fun _ h => List.mem_cons_of_mem _ (List.mem_append_right _ h)) hown hK.1 hP 0 rfl rfl 6 (by decide) (hts (.fieldLink RX2 31 "RevisionStores$Tree" "made" "I") (List.mem_of_getElem? (i := 1) rfl)) (fun _ h9 => h9) rfl dX2_make_122 ?_
      refine lv_iconst (v := nI 1) hx hb dX2_make_125 (by decide) ?_
      refine r_iaddN hx hb dX2_make_126 ?_
      refine va_put (D := D) (ci := 2) (v := .int (nI (n + 1))) (ty := .int) (C := RX2) (T := TX2) (N := 7) hx hb hts (fun _ h => List.mem_cons_of_mem _ (List.mem_append_right _ h)) tyX2 tyX2_ok nmX2 hown hK.1 hP hD hS 0 rfl rfl 6 (by decide) (hts (.fieldLink RX2 31 "RevisionStores$Tree" "made" "I") (List.mem_of_getElem? (i := 1) rfl)) (fun _ h9 => h9) rfl (by decide +kernel) rfl rfl (Nat.le_of_ble_eq_true rfl) dX2_make_127 (fun H locs hP hD hS => ?_)
      have hP : va_P D vwCl (wT ct a (n + 1) (va_up dc n d) (va_up pa n none) (va_up va n v) (va_up dl n b) (va_up ge n 1) (va_up su n (mksu ge su o v b))) H := hP
      have hD : va_D A (wT ct a (n + 1) (va_up dc n d) (va_up pa n none) (va_up va n v) (va_up dl n b) (va_up ge n 1) (va_up su n (mksu ge su o v b))) := hD
      refine lv_iload hx hb dX2_make_130 (lv_at hl 2 rfl) ?_
      have e9 : va_up pa n none = va_up pa n o := by simp [c8, c106]
      rw [e9] at hP
      have e9 : va_up ge n 1 = va_up ge n (mkg ge o) := by simp [mkg, c8, c106]
      rw [e9] at hP
      have hP : va_P D vwCl (wT ct a (n + 1) (va_up dc n d) (va_up pa n o) (va_up va n v) (va_up dl n b) (va_up ge n (mkg ge o)) (va_up su n (mksu ge su o v b))) H := hP
      exact W.iret hx hb hr (fun t ht hW => ⟨⟨_, (), rfl, rfl, by rw [ht]; exact hP⟩, hS.F ht⟩) hS.2.2 dX2_make_132
set_option maxHeartbeats 8000000 in
set_option maxRecDepth 100000 in
theorem cX0_hasDescendantOf_ok (l : Launch) (D : va_G) (ct : Nat → ClassId) (h : Nat → Nat) (hd : Nat → Bool) (nl : Nat → Nat) (wi : Nat → Option Nat) (k : Nat) (hk : k < 150) (hnl : nl k ≤ 151) : Met l yX0_hasDescendantOf wsX0_hasDescendantOf ({ frames := 0, cells := 0, slots := 0, locals := 0 } : Room) (roPc D ct [.ref (h 0), .int (nI k)] (wH ct h hd nl wi)) (rqI (bI (hasD nl k))) 0 0 (fun _ => False) := by
  refine Met.ofW (cc := cX0_hasDescendantOf) (maxL := 2) (ret := (some .boolean)) (by decide) rfl ?_
  intro p e s m args below meth c s₁ B hml hv
  obtain ⟨rfl, hP, hK⟩ := hv
  have hx := B.exec
  have hb := B.bytes
  have hr := B.returns
  have hts := atoms_spec (ws := wsX0_hasDescendantOf) B.pre
  have hown : s.vm.findClass RX0 = some m.cls := findClass_of_methodNamed B.named
  have hlocks := B.notSynchronized
  have hl := lv_entry ([.ref (h 0), .int (nI k)]) (n := 2) (Nat.le_of_ble_eq_true rfl)
  rw [lg_entry_eq]
  generalize (lg_sl ([.ref (h 0), .int (nI k)]) ++ List.replicate (2 - (lg_sl ([.ref (h 0), .int (nI k)])).length) Slot.unset).toArray = ls at hl ⊢
  have hl : lv_has ls 2 [(0, .ref (h 0)), (1, .int (nI k))] := hl
  refine lv_aload_n hx hb dX0_hasDescendantOf_0 rfl (lv_at hl 0 rfl) ?_
  refine va_get (D := D) (ci := 0) (v := .ref (h 2)) (C := RX0) (T := TX0) (N := 3) hx hb hts (fun _ h => List.mem_cons_of_mem _ (List.mem_append_right _ h)) hown hK.1 hP 0 rfl rfl 1 (by decide) (hts (.fieldLink RX0 15 "RevisionStores$Holding" "nearestLeaf" "[I") (List.mem_of_getElem? (i := 1) rfl)) (fun _ h9 => h9) rfl dX0_hasDescendantOf_1 ?_
  refine lv_iload_n hx hb dX0_hasDescendantOf_4 rfl (lv_at hl 1 rfl) ?_
  refine r_iald (j := k) (v := nI (nl k)) hx hb hK.1 hP 2 0 rfl rfl (by omega) (by first | decide | omega) rfl dX0_hasDescendantOf_5 ?_
  refine lv_sipush (v := nI 151) hx hb dX0_hasDescendantOf_6 (by decide) ?_
  refine r_icmp_eqN hx hb (x := nl k) (y := 151) (by first | omega | decide) (by first | omega | decide) (tgt := 16) dX0_hasDescendantOf_9 (by decide) (fun c9 => ?_) (fun c9 => ?_)
  · refine lv_iconst (v := nI 0) hx hb dX0_hasDescendantOf_16 (by decide) ?_
    refine r_top (y := bI (hasD nl k)) (by simp [hasD, bI, c9]) ?_
    exact W.zret hx hb hr (bI_narrow _) (fun t ht hW => ⟨_, rfl, rfl, ht⟩) (fun _ h => by cases h) dX0_hasDescendantOf_17
  · refine lv_iconst (v := nI 1) hx hb dX0_hasDescendantOf_12 (by decide) ?_
    refine lv_goto (tgt := 17) hx hb dX0_hasDescendantOf_13 (by decide) ?_
    refine r_top (y := bI (hasD nl k)) (by simp [hasD, bI, c9]) ?_
    exact W.zret hx hb hr (bI_narrow _) (fun t ht hW => ⟨_, rfl, rfl, ht⟩) (fun _ h => by cases h) dX0_hasDescendantOf_17
set_option maxHeartbeats 8000000 in
set_option maxRecDepth 100000 in
theorem cX0_endsAt_ok (l : Launch) (D : va_G) (ct : Nat → ClassId) (h : Nat → Nat) (hd : Nat → Bool) (nl : Nat → Nat) (wi : Nat → Option Nat) (k : Nat) (hk : k < 150) (hnl : nl k ≤ 151) : Met l yX0_endsAt wsX0_endsAt ({ frames := 1, cells := 0, slots := 0, locals := 21 } : Room) (roPc D ct [.ref (h 0), .int (nI k)] (wH ct h hd nl wi)) (rqI (bI (ends hd nl k))) 0 0 (fun _ => False) := by
  refine Met.ofW (cc := cX0_endsAt) (maxL := 2) (ret := (some .boolean)) (by decide) rfl ?_
  intro p e s m args below meth c s₁ B hml hv
  obtain ⟨rfl, hP, hK⟩ := hv
  have hx := B.exec
  have hb := B.bytes
  have hr := B.returns
  have hts := atoms_spec (ws := wsX0_endsAt) B.pre
  have hown : s.vm.findClass RX0 = some m.cls := findClass_of_methodNamed B.named
  have hlocks := B.notSynchronized
  have hl := lv_entry ([.ref (h 0), .int (nI k)]) (n := 2) (Nat.le_of_ble_eq_true rfl)
  rw [lg_entry_eq]
  generalize (lg_sl ([.ref (h 0), .int (nI k)]) ++ List.replicate (2 - (lg_sl ([.ref (h 0), .int (nI k)])).length) Slot.unset).toArray = ls at hl ⊢
  have hl : lv_has ls 2 [(0, .ref (h 0)), (1, .int (nI k))] := hl
  refine lv_aload_n hx hb dX0_endsAt_0 rfl (lv_at hl 0 rfl) ?_
  refine va_get (D := D) (ci := 0) (v := .ref (h 1)) (C := RX0) (T := TX0) (N := 3) hx hb hts (fun _ h => List.mem_cons_of_mem _ (List.mem_append_right _ h)) hown hK.1 hP 0 rfl rfl 0 (by decide) (hts (.fieldLink RX0 9 "RevisionStores$Holding" "held" "[Z") (List.mem_of_getElem? (i := 1) rfl)) (fun _ h9 => h9) rfl dX0_endsAt_1 ?_
  refine lv_iload_n hx hb dX0_endsAt_4 rfl (lv_at hl 1 rfl) ?_
  refine r_zald (j := k) (v := bI (hd k)) hx hb hK.1 hP 1 1 rfl rfl (by omega) (by first | decide | omega) rfl dX0_endsAt_5 ?_
  refine r_if_eqB (x := hd k) (tgt := 21) hx hb dX0_endsAt_6 (by decide) (fun c6 => ?_) (fun c6 => ?_)
  · refine lv_iconst (v := nI 0) hx hb dX0_endsAt_21 (by decide) ?_
    refine r_top (y := bI (ends hd nl k)) (by simp [ends, bI, c6]) ?_
    exact W.zret hx hb hr (bI_narrow _) (fun t ht hW => ⟨_, rfl, rfl, ht⟩) (fun _ h => by cases h) dX0_endsAt_22
  · refine lv_aload_n hx hb dX0_endsAt_9 rfl (lv_at hl 0 rfl) ?_
    refine lv_iload_n hx hb dX0_endsAt_10 rfl (lv_at hl 1 rfl) ?_
    refine r_cV (As := [.int (nI k)]) (rest := []) ⟨hx, hb, hml, hown, hts⟩ (cX0_hasDescendantOf_ok l D ct h hd nl wi k (by first | assumption | omega) (by first | assumption | omega)) (cwV 1 hts gX0_endsAt_X0_hasDescendantOf rfl rfl rfl (by decide +kernel) ⟨Nat.le_of_ble_eq_true rfl, Nat.le_of_ble_eq_true rfl⟩) hK (hP.sub (ws' := wH ct h hd nl wi) [0, 1, 2, 3] rfl) 0 0 rfl rfl rfl hl.1 rfl (Nat.le_of_ble_eq_true rfl) dX0_endsAt_11 ⟨Nat.le_of_ble_eq_true rfl, Nat.le_of_ble_eq_true rfl⟩ ?_
    refine r_if_neB (x := hasD nl k) (tgt := 21) hx hb dX0_endsAt_14 (by decide) (fun c14 => ?_) (fun c14 => ?_)
    · refine lv_iconst (v := nI 0) hx hb dX0_endsAt_21 (by decide) ?_
      refine r_top (y := bI (ends hd nl k)) (by simp [ends, bI, c6, c14]) ?_
      exact W.zret hx hb hr (bI_narrow _) (fun t ht hW => ⟨_, rfl, rfl, ht⟩) (fun _ h => by cases h) dX0_endsAt_22
    · refine lv_iconst (v := nI 1) hx hb dX0_endsAt_17 (by decide) ?_
      refine lv_goto (tgt := 22) hx hb dX0_endsAt_18 (by decide) ?_
      refine r_top (y := bI (ends hd nl k)) (by simp [ends, bI, c6, c14]) ?_
      exact W.zret hx hb hr (bI_narrow _) (fun t ht hW => ⟨_, rfl, rfl, ht⟩) (fun _ h => by cases h) dX0_endsAt_22
set_option maxHeartbeats 8000000 in
set_option maxRecDepth 100000 in
theorem cX0_findLeaves_ok (l : Launch) (D : va_G) (ct : Nat → ClassId) (h : Nat → Nat) (hd : Nat → Bool) (nl : Nat → Nat) (wi : Nat → Option Nat) (a : Nat → Nat) (n : Nat) (dc : Nat → Nat) (pa : Nat → Option Nat) (va : Nat → Int32) (dl : Nat → Bool) (ge : Nat → Nat) (su : Nat → Int32) (hn : n ≤ 150) (hTg : ∀ k, ge k ≤ 150) (hTp : ∀ k j, k < n → pa k = some j → j < k) (sz : Nat) : Met l yX0_findLeaves wsX0_findLeaves ({ frames := 2, cells := 0, slots := 0, locals := 42 } : Room) (wrPc D ct [.ref (h 0), .ref (a 0)] (wH ct h hd nl wi ++ wT ct a n dc pa va dl ge su) sz) (wqV D (wH ct h hd (flS pa ge hd n n) wi ++ wT ct a n dc pa va dl ge su) (va_A (wH ct h hd nl wi ++ wT ct a n dc pa va dl ge su) sz)) 0 0 (va_A (wH ct h hd nl wi ++ wT ct a n dc pa va dl ge su) sz) := by
  refine Met.ofW (cc := cX0_findLeaves) (maxL := 5) (ret := none) (by decide) rfl ?_
  intro p e s m args below meth c s₁ B hml hv
  obtain ⟨rfl, hsz, hP, hK, hD0⟩ := hv
  have hx := B.exec
  have hb := B.bytes
  have hr := B.returns
  have hts := atoms_spec (ws := wsX0_findLeaves) B.pre
  have hown : s.vm.findClass RX0 = some m.cls := findClass_of_methodNamed B.named
  have hlocks := B.notSynchronized
  subst hsz
  have hD := hD0.self (sz := s.heap.size)
  generalize hAe : va_A (wH ct h hd nl wi ++ wT ct a n dc pa va dl ge su) s.heap.size = A at hD ⊢
  have hA : ∀ q : Nat, s.heap.size ≤ q → A q := fun q h => by rw [← hAe]; exact Or.inr h
  have hS : va_S A s.heap s.heap [] := va_S.rf
  have hP : va_P D vwCl (wH ct h hd nl wi ++ wT ct a n dc pa va dl ge su) s.heap := hP
  clear hAe hD0
  have hl := lv_entry ([.ref (h 0), .ref (a 0)]) (n := 5) (Nat.le_of_ble_eq_true rfl)
  rw [lg_entry_eq]
  generalize (lg_sl ([.ref (h 0), .ref (a 0)]) ++ List.replicate (5 - (lg_sl ([.ref (h 0), .ref (a 0)])).length) Slot.unset).toArray = ls at hl ⊢
  have hl : lv_has ls 5 [(0, .ref (h 0)), (1, .ref (a 0))] := hl
  have hH0 : s.heap.size ≤ s.heap.size := Nat.le_refl _
  refine lv_aload_n hx hb dX0_findLeaves_0 rfl (lv_at hl 0 rfl) ?_
  refine va_get (D := D) (ci := 0) (v := .ref (h 2)) (C := RX0) (T := TX0) (N := 3) hx hb hts (fun _ h => List.mem_cons_of_mem _ (List.mem_append_left _ (List.mem_append_right _ h))) hown hK.1 hP 0 rfl rfl 1 (by decide) (hts (.fieldLink RX0 15 "RevisionStores$Holding" "nearestLeaf" "[I") (List.mem_of_getElem? (i := 1) rfl)) (fun _ h9 => h9) rfl dX0_findLeaves_1 ?_
  refine lv_sipush (v := nI 151) hx hb dX0_findLeaves_4 (by decide) ?_
  refine r_wSv (As := [.ref (h 2), .int (nI 151)]) (rest := []) ⟨hx, hb, hml, hown, hts⟩ (cJ7_fill_53178_ok l D ct (h 2) 150 (fun k => nI (nl k)) (nI 151) (fun _ => nI 151) (by decide) (fun _ _ => rfl) s.heap.size) (va_cwS 2 hts gX0_findLeaves_J7_fill_53178 rfl rfl rfl (by decide +kernel) ⟨Nat.le_of_ble_eq_true rfl, Nat.le_of_ble_eq_true rfl⟩) hK hP hD hS hA [2] rfl rfl rfl rfl hl.1 rfl (Nat.le_of_ble_eq_true rfl) dX0_findLeaves_7 ⟨Nat.le_of_ble_eq_true rfl, Nat.le_of_ble_eq_true rfl⟩ (fun H locs hP hD hS => ?_)
  have hP : va_P D vwCl (wH ct h hd (fun _ => 151) wi ++ wT ct a n dc pa va dl ge su) H := hP
  have hD : va_D A (wH ct h hd (fun _ => 151) wi ++ wT ct a n dc pa va dl ge su) := hD
  refine lv_aload_n hx hb dX0_findLeaves_10 rfl (lv_at hl 1 rfl) ?_
  refine va_getN (D := D) (ci := 2) (v := .int (nI n)) (C := RX2) (T := TX2) (N := 7) hx hb hts (fun _ h => List.mem_cons_of_mem _ (List.mem_append_right _ h)) hown hK.1 hP 4 rfl rfl 6 (by decide) (va_Nw.use rfl (hK.2 _ (List.mem_of_getElem? (i := 16) rfl))) (fun _ h9 => h9) rfl dX0_findLeaves_11 ?_
  refine lv_iconst (v := nI 1) hx hb dX0_findLeaves_14 (by decide) ?_
  refine lv_isub hx hb dX0_findLeaves_15 ?_
  refine r_top (y := eP (prd n)) (nI_prd2 _) ?_
  refine lv_istore_n (lv' := [(2, .int (eP (prd n))), (0, .ref (h 0)), (1, .ref (a 0))]) hx hb dX0_findLeaves_16 rfl hl (by decide) rfl (fun ls hl => ?_)
  have key17 : ∀ (d17 : Nat) (r : Nat) (c : Nat) (hr : r + c = n), r < d17 → ∀ (H : Heap) (locs : List Loc) (ls : Array Slot), va_P D vwCl (wH ct h hd (flS pa ge hd n c) wi ++ wT ct a n dc pa va dl ge su) H → va_D A (wH ct h hd (flS pa ge hd n c) wi ++ wT ct a n dc pa va dl ge su) → va_S A s.heap H locs → lv_has ls 5 [(2, .int (eP (prd r))), (0, .ref (h 0)), (1, .ref (a 0))] → W p l e ({ frames := 2, cells := 0, slots := 0, locals := 42 } : Room) s m ([.ref (h 0), .ref (a 0)] : List Value).toArray below meth c H locs 0 0 (MQ below (wqV D (wH ct h hd (flS pa ge hd n n) wi ++ wT ct a n dc pa va dl ge su) A) ([.ref (h 0), .ref (a 0)] : List Value).toArray s 0 0 A) (F0 m 17 ls []) := by
    intro d17
    induction d17 with
    | zero => intro r c hr h9; exact absurd h9 (Nat.not_lt_zero _)
    | succ d17 ih17 =>
      intro r c hr hm17 H locs ls hP hD hS hl
      refine lv_iload_n hx hb dX0_findLeaves_17 rfl (lv_at hl 0 rfl) ?_
      refine r_if_ltP hx hb (x := prd r) (by intro j9 h9; first | (have := prd_lt h9; omega) | (have := hTp _ _ (by have := prd_lt c18; omega) h9; omega)) (tgt := 81) dX0_findLeaves_18 (by decide) (fun c18 => ?_) (fun j18 c18 => ?_)
      · have hl := lv_re (f := fun z9 => [(2, .int z9), (0, .ref (h 0)), (1, .ref (a 0))]) hl (show eP (prd r) = eP none from congrArg eP c18)
        have e9 : flS pa ge hd n c = flS pa ge hd n n := by have : r = 0 := (by cases r with | zero => rfl | succ q => exact absurd c18 (by simp [prd])); rw [show c = n by omega]
        rw [e9] at hP
        have hP : va_P D vwCl (wH ct h hd (flS pa ge hd n n) wi ++ wT ct a n dc pa va dl ge su) H := hP
        exact W.vret hx hb hr (fun t ht hW => ⟨⟨(), rfl, trivial, by rw [ht]; exact hP⟩, hS.F ht⟩) hS.2.2 dX0_findLeaves_81
      · have hl := lv_re (f := fun z9 => [(2, .int z9), (0, .ref (h 0)), (1, .ref (a 0))]) hl (show eP (prd r) = nI j18 from congrArg eP c18)
        have e21 := prd_lt c18
        refine lv_aload_n hx hb dX0_findLeaves_21 rfl (lv_at hl 2 rfl) ?_
        refine va_getN (D := D) (ci := 2) (v := .ref (a 2)) (C := RX2) (T := TX2) (N := 7) hx hb hts (fun _ h => List.mem_cons_of_mem _ (List.mem_append_right _ h)) hown hK.1 hP 4 rfl rfl 1 (by decide) (va_Nw.use rfl (hK.2 _ (List.mem_of_getElem? (i := 17) rfl))) (fun _ h9 => h9) rfl dX0_findLeaves_22 ?_
        refine lv_iload_n hx hb dX0_findLeaves_25 rfl (lv_at hl 0 rfl) ?_
        refine r_iald (j := j18) (v := eP (pa j18)) hx hb hK.1 hP 6 0 rfl rfl (by omega) (by first | decide | omega) rfl dX0_findLeaves_26 ?_
        refine lv_istore_n (lv' := [(3, .int (eP (pa j18))), (2, .int (nI j18)), (0, .ref (h 0)), (1, .ref (a 0))]) hx hb dX0_findLeaves_27 rfl hl (by decide) rfl (fun ls hl => ?_)
        refine lv_iload_n hx hb dX0_findLeaves_28 rfl (lv_at hl 0 rfl) ?_
        refine lv_iconst (v := -1) hx hb dX0_findLeaves_29 (by decide) ?_
        refine r_icmp_eqP hx hb (x := pa j18) (by intro j9 h9; first | (have := prd_lt h9; omega) | (have := hTp _ _ (by have := prd_lt c18; omega) h9; omega)) (tgt := 75) dX0_findLeaves_30 (by decide) (fun c30 => ?_) (fun j30 c30 => ?_)
        · have hl := lv_re (f := fun z9 => [(3, .int z9), (2, .int (nI j18)), (0, .ref (h 0)), (1, .ref (a 0))]) hl (show eP (pa j18) = eP none from congrArg eP c30)
          refine lv_iinc (v := eP (prd j18)) (lv' := [(2, .int (eP (prd j18))), (3, .int (eP none)), (0, .ref (h 0)), (1, .ref (a 0))]) hx hb dX0_findLeaves_75 hl (k := 1) rfl (nI_prd _) (by decide) rfl (fun ls hl => ?_)
          refine lv_goto (tgt := 17) hx hb dX0_findLeaves_78 (by decide) ?_
          have e9 : flS pa ge hd n c = flS pa ge hd n (c + 1) := by first | exact flS_n (by have := prd_lt c18; omega) c30 | exact flS_s (by have := prd_lt c18; omega) c30 (by simp [c18, c30])
          rw [e9] at hP hD
          have hP : va_P D vwCl (wH ct h hd (flS pa ge hd n (c + 1)) wi ++ wT ct a n dc pa va dl ge su) H := hP
          have hD : va_D A (wH ct h hd (flS pa ge hd n (c + 1)) wi ++ wT ct a n dc pa va dl ge su) := hD
          exact ih17 j18 (c + 1) (by have := prd_lt c18; omega) (by have := prd_lt c18; omega) H locs ls hP hD hS (lv_sub hl [0, 2, 3] rfl)
        · have hl := lv_re (f := fun z9 => [(3, .int z9), (2, .int (nI j18)), (0, .ref (h 0)), (1, .ref (a 0))]) hl (show eP (pa j18) = nI j30 from congrArg eP c30)
          have e33 := hTp _ _ (by omega) c30
          have f33 := flS_le (pa := pa) (ge := ge) (hd := hd) (n := n) c
          refine lv_aload_n hx hb dX0_findLeaves_33 rfl (lv_at hl 2 rfl) ?_
          refine lv_iload_n hx hb dX0_findLeaves_34 rfl (lv_at hl 1 rfl) ?_
          refine r_cV (As := [.int (nI j18)]) (rest := []) ⟨hx, hb, hml, hown, hts⟩ (cX0_endsAt_ok l D ct h hd (flS pa ge hd n c) wi j18 (by omega) (flS_le c _)) (cwV 1 hts gX0_findLeaves_X0_endsAt rfl rfl rfl (by decide +kernel) ⟨Nat.le_of_ble_eq_true rfl, Nat.le_of_ble_eq_true rfl⟩) hK (hP.sub (ws' := wH ct h hd (flS pa ge hd n c) wi) [0, 1, 2, 3] rfl) 0 0 rfl rfl rfl hl.1 rfl (Nat.le_of_ble_eq_true rfl) dX0_findLeaves_35 ⟨Nat.le_of_ble_eq_true rfl, Nat.le_of_ble_eq_true rfl⟩ ?_
          refine r_if_eqB (x := ends hd (flS pa ge hd n c) j18) (tgt := 50) hx hb dX0_findLeaves_38 (by decide) (fun c38 => ?_) (fun c38 => ?_)
          · refine lv_aload_n hx hb dX0_findLeaves_50 rfl (lv_at hl 2 rfl) ?_
            refine va_get (D := D) (ci := 0) (v := .ref (h 2)) (C := RX0) (T := TX0) (N := 3) hx hb hts (fun _ h => List.mem_cons_of_mem _ (List.mem_append_left _ (List.mem_append_right _ h))) hown hK.1 hP 0 rfl rfl 1 (by decide) (hts (.fieldLink RX0 15 "RevisionStores$Holding" "nearestLeaf" "[I") (List.mem_of_getElem? (i := 1) rfl)) (fun _ h9 => h9) rfl dX0_findLeaves_51 ?_
            refine lv_iload_n hx hb dX0_findLeaves_54 rfl (lv_at hl 1 rfl) ?_
            refine r_iald (j := j18) (v := nI ((flS pa ge hd n c) j18)) hx hb hK.1 hP 2 0 rfl rfl (by omega) (by first | decide | omega) rfl dX0_findLeaves_55 ?_
            refine lv_istore (lv' := [(4, .int (nI ((flS pa ge hd n c) j18))), (3, .int (nI j30)), (2, .int (nI j18)), (0, .ref (h 0)), (1, .ref (a 0))]) hx hb dX0_findLeaves_56 hl (by decide) rfl (fun ls hl => ?_)
            refine lv_aload_n hx hb dX0_findLeaves_58 rfl (lv_at hl 3 rfl) ?_
            refine va_get (D := D) (ci := 0) (v := .ref (h 2)) (C := RX0) (T := TX0) (N := 3) hx hb hts (fun _ h => List.mem_cons_of_mem _ (List.mem_append_left _ (List.mem_append_right _ h))) hown hK.1 hP 0 rfl rfl 1 (by decide) (hts (.fieldLink RX0 15 "RevisionStores$Holding" "nearestLeaf" "[I") (List.mem_of_getElem? (i := 1) rfl)) (fun _ h9 => h9) rfl dX0_findLeaves_59 ?_
            refine lv_iload_n hx hb dX0_findLeaves_62 rfl (lv_at hl 1 rfl) ?_
            refine lv_aload_n hx hb dX0_findLeaves_63 rfl (lv_at hl 3 rfl) ?_
            refine va_get (D := D) (ci := 0) (v := .ref (h 2)) (C := RX0) (T := TX0) (N := 3) hx hb hts (fun _ h => List.mem_cons_of_mem _ (List.mem_append_left _ (List.mem_append_right _ h))) hown hK.1 hP 0 rfl rfl 1 (by decide) (hts (.fieldLink RX0 15 "RevisionStores$Holding" "nearestLeaf" "[I") (List.mem_of_getElem? (i := 1) rfl)) (fun _ h9 => h9) rfl dX0_findLeaves_64 ?_
            refine lv_iload_n hx hb dX0_findLeaves_67 rfl (lv_at hl 1 rfl) ?_
            refine r_iald (j := j30) (v := nI ((flS pa ge hd n c) j30)) hx hb hK.1 hP 2 0 rfl rfl (by omega) (by first | decide | omega) rfl dX0_findLeaves_68 ?_
            refine lv_iload hx hb dX0_findLeaves_69 (lv_at hl 0 rfl) ?_
            refine r_mminN hx hb (by rw [hml]; exact hl.1.symm) hown (hts (.methodLink RX0 51 Lib.Math.min.name) (List.mem_of_getElem? (i := 2) rfl)) (hts (.static Lib.Math.min.name) (List.mem_of_getElem? (i := 3) rfl)) (hts (.initialized "java/lang/Math") (List.mem_of_getElem? (i := 4) rfl)) (hts (.code Lib.Math.min.name Lib.Math.min.code 2 (some .int)) (List.mem_of_getElem? (i := 5) rfl)) (Nat.le_of_ble_eq_true rfl) (Nat.le_of_ble_eq_true rfl) (Nat.le_of_ble_eq_true rfl) (Nat.le_of_ble_eq_true rfl) (by first | omega | decide) (by first | omega | decide) dX0_findLeaves_71 ?_
            refine r_iast (j := j30) (x := (nI (min ((flS pa ge hd n c) j30) ((flS pa ge hd n c) j18)))) (f' := fun k => nI ((va_up (flS pa ge hd n c) j30 (min ((flS pa ge hd n c) j30) ((flS pa ge hd n c) j18))) k)) hx hb hK.1 hP hD hS 2 0 rfl rfl (by omega) (by first | decide | omega) (up_n _ _ _) dX0_findLeaves_74 (fun H locs hP hD hS => ?_)
            have hP : va_P D vwCl (wH ct h hd (va_up (flS pa ge hd n c) j30 (min ((flS pa ge hd n c) j30) ((flS pa ge hd n c) j18))) wi ++ wT ct a n dc pa va dl ge su) H := hP
            have hD : va_D A (wH ct h hd (va_up (flS pa ge hd n c) j30 (min ((flS pa ge hd n c) j30) ((flS pa ge hd n c) j18))) wi ++ wT ct a n dc pa va dl ge su) := hD
            refine lv_iinc (v := eP (prd j18)) (lv' := [(2, .int (eP (prd j18))), (4, .int (nI ((flS pa ge hd n c) j18))), (3, .int (nI j30)), (0, .ref (h 0)), (1, .ref (a 0))]) hx hb dX0_findLeaves_75 hl (k := 2) rfl (nI_prd _) (by decide) rfl (fun ls hl => ?_)
            refine lv_goto (tgt := 17) hx hb dX0_findLeaves_78 (by decide) ?_
            have e9 : va_up (flS pa ge hd n c) j30 (min ((flS pa ge hd n c) j30) ((flS pa ge hd n c) j18)) = flS pa ge hd n (c + 1) := by first | exact flS_n (by have := prd_lt c18; omega) c30 | exact flS_s (by have := prd_lt c18; omega) c30 (by simp [c18, c30, c38])
            rw [e9] at hP hD
            have hP : va_P D vwCl (wH ct h hd (flS pa ge hd n (c + 1)) wi ++ wT ct a n dc pa va dl ge su) H := hP
            have hD : va_D A (wH ct h hd (flS pa ge hd n (c + 1)) wi ++ wT ct a n dc pa va dl ge su) := hD
            exact ih17 j18 (c + 1) (by have := prd_lt c18; omega) (by have := prd_lt c18; omega) H locs ls hP hD hS (lv_sub hl [0, 3, 4] rfl)
          · refine lv_aload_n hx hb dX0_findLeaves_41 rfl (lv_at hl 3 rfl) ?_
            refine va_getN (D := D) (ci := 2) (v := .ref (a 5)) (C := RX2) (T := TX2) (N := 7) hx hb hts (fun _ h => List.mem_cons_of_mem _ (List.mem_append_right _ h)) hown hK.1 hP 4 rfl rfl 4 (by decide) (va_Nw.use rfl (hK.2 _ (List.mem_of_getElem? (i := 18) rfl))) (fun _ h9 => h9) rfl dX0_findLeaves_42 ?_
            refine lv_iload_n hx hb dX0_findLeaves_45 rfl (lv_at hl 1 rfl) ?_
            refine r_iald (j := j18) (v := nI (ge j18)) hx hb hK.1 hP 9 0 rfl rfl (by omega) (by first | decide | omega) rfl dX0_findLeaves_46 ?_
            have f46 := hTg j18
            refine lv_goto (tgt := 56) hx hb dX0_findLeaves_47 (by decide) ?_
            refine lv_istore (lv' := [(4, .int (nI (ge j18))), (3, .int (nI j30)), (2, .int (nI j18)), (0, .ref (h 0)), (1, .ref (a 0))]) hx hb dX0_findLeaves_56 hl (by decide) rfl (fun ls hl => ?_)
            refine lv_aload_n hx hb dX0_findLeaves_58 rfl (lv_at hl 3 rfl) ?_
            refine va_get (D := D) (ci := 0) (v := .ref (h 2)) (C := RX0) (T := TX0) (N := 3) hx hb hts (fun _ h => List.mem_cons_of_mem _ (List.mem_append_left _ (List.mem_append_right _ h))) hown hK.1 hP 0 rfl rfl 1 (by decide) (hts (.fieldLink RX0 15 "RevisionStores$Holding" "nearestLeaf" "[I") (List.mem_of_getElem? (i := 1) rfl)) (fun _ h9 => h9) rfl dX0_findLeaves_59 ?_
            refine lv_iload_n hx hb dX0_findLeaves_62 rfl (lv_at hl 1 rfl) ?_
            refine lv_aload_n hx hb dX0_findLeaves_63 rfl (lv_at hl 3 rfl) ?_
            refine va_get (D := D) (ci := 0) (v := .ref (h 2)) (C := RX0) (T := TX0) (N := 3) hx hb hts (fun _ h => List.mem_cons_of_mem _ (List.mem_append_left _ (List.mem_append_right _ h))) hown hK.1 hP 0 rfl rfl 1 (by decide) (hts (.fieldLink RX0 15 "RevisionStores$Holding" "nearestLeaf" "[I") (List.mem_of_getElem? (i := 1) rfl)) (fun _ h9 => h9) rfl dX0_findLeaves_64 ?_
            refine lv_iload_n hx hb dX0_findLeaves_67 rfl (lv_at hl 1 rfl) ?_
            refine r_iald (j := j30) (v := nI ((flS pa ge hd n c) j30)) hx hb hK.1 hP 2 0 rfl rfl (by omega) (by first | decide | omega) rfl dX0_findLeaves_68 ?_
            refine lv_iload hx hb dX0_findLeaves_69 (lv_at hl 0 rfl) ?_
            refine r_mminN hx hb (by rw [hml]; exact hl.1.symm) hown (hts (.methodLink RX0 51 Lib.Math.min.name) (List.mem_of_getElem? (i := 2) rfl)) (hts (.static Lib.Math.min.name) (List.mem_of_getElem? (i := 3) rfl)) (hts (.initialized "java/lang/Math") (List.mem_of_getElem? (i := 4) rfl)) (hts (.code Lib.Math.min.name Lib.Math.min.code 2 (some .int)) (List.mem_of_getElem? (i := 5) rfl)) (Nat.le_of_ble_eq_true rfl) (Nat.le_of_ble_eq_true rfl) (Nat.le_of_ble_eq_true rfl) (Nat.le_of_ble_eq_true rfl) (by first | omega | decide) (by first | omega | decide) dX0_findLeaves_71 ?_
            refine r_iast (j := j30) (x := (nI (min ((flS pa ge hd n c) j30) (ge j18)))) (f' := fun k => nI ((va_up (flS pa ge hd n c) j30 (min ((flS pa ge hd n c) j30) (ge j18))) k)) hx hb hK.1 hP hD hS 2 0 rfl rfl (by omega) (by first | decide | omega) (up_n _ _ _) dX0_findLeaves_74 (fun H locs hP hD hS => ?_)
            have hP : va_P D vwCl (wH ct h hd (va_up (flS pa ge hd n c) j30 (min ((flS pa ge hd n c) j30) (ge j18))) wi ++ wT ct a n dc pa va dl ge su) H := hP
            have hD : va_D A (wH ct h hd (va_up (flS pa ge hd n c) j30 (min ((flS pa ge hd n c) j30) (ge j18))) wi ++ wT ct a n dc pa va dl ge su) := hD
            refine lv_iinc (v := eP (prd j18)) (lv' := [(2, .int (eP (prd j18))), (4, .int (nI (ge j18))), (3, .int (nI j30)), (0, .ref (h 0)), (1, .ref (a 0))]) hx hb dX0_findLeaves_75 hl (k := 2) rfl (nI_prd _) (by decide) rfl (fun ls hl => ?_)
            refine lv_goto (tgt := 17) hx hb dX0_findLeaves_78 (by decide) ?_
            have e9 : va_up (flS pa ge hd n c) j30 (min ((flS pa ge hd n c) j30) (ge j18)) = flS pa ge hd n (c + 1) := by first | exact flS_n (by have := prd_lt c18; omega) c30 | exact flS_s (by have := prd_lt c18; omega) c30 (by simp [c18, c30, c38])
            rw [e9] at hP hD
            have hP : va_P D vwCl (wH ct h hd (flS pa ge hd n (c + 1)) wi ++ wT ct a n dc pa va dl ge su) H := hP
            have hD : va_D A (wH ct h hd (flS pa ge hd n (c + 1)) wi ++ wT ct a n dc pa va dl ge su) := hD
            exact ih17 j18 (c + 1) (by have := prd_lt c18; omega) (by have := prd_lt c18; omega) H locs ls hP hD hS (lv_sub hl [0, 3, 4] rfl)
  have e9 : fun _ => 151 = flS pa ge hd n 0 := rfl
  rw [e9] at hP hD
  have hP : va_P D vwCl (wH ct h hd (flS pa ge hd n 0) wi ++ wT ct a n dc pa va dl ge su) H := hP
  have hD : va_D A (wH ct h hd (flS pa ge hd n 0) wi ++ wT ct a n dc pa va dl ge su) := hD
  exact key17 (n + 1) n 0 (by first | assumption | omega) (Nat.lt_succ_self _) H locs ls hP hD hS (lv_sub hl [0, 1, 2] rfl)
set_option maxHeartbeats 8000000 in
set_option maxRecDepth 100000 in
theorem cX0_findWinners_ok (l : Launch) (D : va_G) (ct : Nat → ClassId) (h : Nat → Nat) (hd : Nat → Bool) (nl : Nat → Nat) (wi : Nat → Option Nat) (a : Nat → Nat) (n : Nat) (dc : Nat → Nat) (pa : Nat → Option Nat) (va : Nat → Int32) (dl : Nat → Bool) (ge : Nat → Nat) (su : Nat → Int32) (hn : n ≤ 150) (hTd : ∀ k, dc k < 4) (hTg : ∀ k, ge k ≤ 150) (hNl : ∀ k, nl k ≤ 151) (sz : Nat) : Met l yX0_findWinners wsX0_findWinners ({ frames := 2, cells := 0, slots := 0, locals := 42 } : Room) (wrPc D ct [.ref (h 0), .ref (a 0)] (wH ct h hd nl wi ++ wT ct a n dc pa va dl ge su) sz) (wqV D (wH ct h hd nl (fwS dc dl ge su (ends hd nl) n) ++ wT ct a n dc pa va dl ge su) (va_A (wH ct h hd nl wi ++ wT ct a n dc pa va dl ge su) sz)) 0 0 (va_A (wH ct h hd nl wi ++ wT ct a n dc pa va dl ge su) sz) := by
  refine Met.ofW (cc := cX0_findWinners) (maxL := 5) (ret := none) (by decide) rfl ?_
  intro p e s m args below meth c s₁ B hml hv
  obtain ⟨rfl, hsz, hP, hK, hD0⟩ := hv
  have hx := B.exec
  have hb := B.bytes
  have hr := B.returns
  have hts := atoms_spec (ws := wsX0_findWinners) B.pre
  have hown : s.vm.findClass RX0 = some m.cls := findClass_of_methodNamed B.named
  have hlocks := B.notSynchronized
  subst hsz
  have hD := hD0.self (sz := s.heap.size)
  generalize hAe : va_A (wH ct h hd nl wi ++ wT ct a n dc pa va dl ge su) s.heap.size = A at hD ⊢
  have hA : ∀ q : Nat, s.heap.size ≤ q → A q := fun q h => by rw [← hAe]; exact Or.inr h
  have hS : va_S A s.heap s.heap [] := va_S.rf
  have hP : va_P D vwCl (wH ct h hd nl wi ++ wT ct a n dc pa va dl ge su) s.heap := hP
  clear hAe hD0
  have hl := lv_entry ([.ref (h 0), .ref (a 0)]) (n := 5) (Nat.le_of_ble_eq_true rfl)
  rw [lg_entry_eq]
  generalize (lg_sl ([.ref (h 0), .ref (a 0)]) ++ List.replicate (5 - (lg_sl ([.ref (h 0), .ref (a 0)])).length) Slot.unset).toArray = ls at hl ⊢
  have hl : lv_has ls 5 [(0, .ref (h 0)), (1, .ref (a 0))] := hl
  have hH0 : s.heap.size ≤ s.heap.size := Nat.le_refl _
  refine lv_aload_n hx hb dX0_findWinners_0 rfl (lv_at hl 0 rfl) ?_
  refine va_get (D := D) (ci := 0) (v := .ref (h 3)) (C := RX0) (T := TX0) (N := 3) hx hb hts (fun _ h => List.mem_cons_of_mem _ (List.mem_append_left _ (List.mem_append_right _ h))) hown hK.1 hP 0 rfl rfl 2 (by decide) (hts (.fieldLink RX0 19 "RevisionStores$Holding" "winners" "[I") (List.mem_of_getElem? (i := 1) rfl)) (fun _ h9 => h9) rfl dX0_findWinners_1 ?_
  refine lv_iconst (v := -1) hx hb dX0_findWinners_4 (by decide) ?_
  refine r_wSv (As := [.ref (h 3), .int (eP none)]) (rest := []) ⟨hx, hb, hml, hown, hts⟩ (cJ7_fill_53178_ok l D ct (h 3) 4 (fun k => eP (wi k)) (eP none) (fun _ => -1) (by decide) (fun _ _ => rfl) s.heap.size) (va_cwS 2 hts gX0_findWinners_J7_fill_53178 rfl rfl rfl (by decide +kernel) ⟨Nat.le_of_ble_eq_true rfl, Nat.le_of_ble_eq_true rfl⟩) hK hP hD hS hA [3] rfl rfl rfl rfl hl.1 rfl (Nat.le_of_ble_eq_true rfl) dX0_findWinners_5 ⟨Nat.le_of_ble_eq_true rfl, Nat.le_of_ble_eq_true rfl⟩ (fun H locs hP hD hS => ?_)
  have hP : va_P D vwCl (wH ct h hd nl (fun _ => none) ++ wT ct a n dc pa va dl ge su) H := hP
  have hD : va_D A (wH ct h hd nl (fun _ => none) ++ wT ct a n dc pa va dl ge su) := hD
  refine lv_iconst (v := nI 0) hx hb dX0_findWinners_8 (by decide) ?_
  refine lv_istore_n (lv' := [(2, .int (nI 0)), (0, .ref (h 0)), (1, .ref (a 0))]) hx hb dX0_findWinners_9 rfl hl (by decide) rfl (fun ls hl => ?_)
  have key10 : ∀ (d10 : Nat) (k : Nat) (hk : k ≤ n), n - k < d10 → ∀ (H : Heap) (locs : List Loc) (ls : Array Slot), va_P D vwCl (wH ct h hd nl (fwS dc dl ge su (ends hd nl) k) ++ wT ct a n dc pa va dl ge su) H → va_D A (wH ct h hd nl (fwS dc dl ge su (ends hd nl) k) ++ wT ct a n dc pa va dl ge su) → va_S A s.heap H locs → lv_has ls 5 [(2, .int (nI k)), (0, .ref (h 0)), (1, .ref (a 0))] → W p l e ({ frames := 2, cells := 0, slots := 0, locals := 42 } : Room) s m ([.ref (h 0), .ref (a 0)] : List Value).toArray below meth c H locs 0 0 (MQ below (wqV D (wH ct h hd nl (fwS dc dl ge su (ends hd nl) n) ++ wT ct a n dc pa va dl ge su) A) ([.ref (h 0), .ref (a 0)] : List Value).toArray s 0 0 A) (F0 m 10 ls []) := by
    intro d10
    induction d10 with
    | zero => intro k hk h9; exact absurd h9 (Nat.not_lt_zero _)
    | succ d10 ih10 =>
      intro k hk hm10 H locs ls hP hD hS hl
      refine lv_iload_n hx hb dX0_findWinners_10 rfl (lv_at hl 0 rfl) ?_
      refine lv_aload_n hx hb dX0_findWinners_11 rfl (lv_at hl 2 rfl) ?_
      refine va_getN (D := D) (ci := 2) (v := .int (nI n)) (C := RX2) (T := TX2) (N := 7) hx hb hts (fun _ h => List.mem_cons_of_mem _ (List.mem_append_right _ h)) hown hK.1 hP 4 rfl rfl 6 (by decide) (va_Nw.use rfl (hK.2 _ (List.mem_of_getElem? (i := 16) rfl))) (fun _ h9 => h9) rfl dX0_findWinners_12 ?_
      refine r_icmp_geN hx hb (x := k) (y := n) (by first | omega | decide) (by first | omega | decide) (tgt := 70) dX0_findWinners_15 (by decide) (fun c15 => ?_) (fun c15 => ?_)
      · have e9 : fwS dc dl ge su (ends hd nl) k = fwS dc dl ge su (ends hd nl) n := by rw [show k = n by omega]
        rw [e9] at hP
        have hP : va_P D vwCl (wH ct h hd nl (fwS dc dl ge su (ends hd nl) n) ++ wT ct a n dc pa va dl ge su) H := hP
        exact W.vret hx hb hr (fun t ht hW => ⟨⟨(), rfl, trivial, by rw [ht]; exact hP⟩, hS.F ht⟩) hS.2.2 dX0_findWinners_70
      · refine lv_aload_n hx hb dX0_findWinners_18 rfl (lv_at hl 1 rfl) ?_
        refine lv_iload_n hx hb dX0_findWinners_19 rfl (lv_at hl 0 rfl) ?_
        refine r_cV (As := [.int (nI k)]) (rest := []) ⟨hx, hb, hml, hown, hts⟩ (cX0_endsAt_ok l D ct h hd nl (fwS dc dl ge su (ends hd nl) k) k (by first | assumption | omega) (hNl _)) (cwV 1 hts gX0_findWinners_X0_endsAt rfl rfl rfl (by decide +kernel) ⟨Nat.le_of_ble_eq_true rfl, Nat.le_of_ble_eq_true rfl⟩) hK (hP.sub (ws' := wH ct h hd nl (fwS dc dl ge su (ends hd nl) k)) [0, 1, 2, 3] rfl) 0 0 rfl rfl rfl hl.1 rfl (Nat.le_of_ble_eq_true rfl) dX0_findWinners_20 ⟨Nat.le_of_ble_eq_true rfl, Nat.le_of_ble_eq_true rfl⟩ ?_
        refine r_if_eqB (x := ends hd nl k) (tgt := 64) hx hb dX0_findWinners_23 (by decide) (fun c23 => ?_) (fun c23 => ?_)
        · refine lv_iinc (v := nI (k + 1)) (lv' := [(2, .int (nI (k + 1))), (0, .ref (h 0)), (1, .ref (a 0))]) hx hb dX0_findWinners_64 hl (k := 0) rfl (nI_1 _) (by decide) rfl (fun ls hl => ?_)
          refine lv_goto (tgt := 10) hx hb dX0_findWinners_67 (by decide) ?_
          have e9 : fwS dc dl ge su (ends hd nl) k = fwS dc dl ge su (ends hd nl) (k + 1) := by show _ = fwp dc dl ge su (ends hd nl) k (fwS dc dl ge su (ends hd nl) k); simp [fwp, c15, c23]
          rw [e9] at hP hD
          have hP : va_P D vwCl (wH ct h hd nl (fwS dc dl ge su (ends hd nl) (k + 1)) ++ wT ct a n dc pa va dl ge su) H := hP
          have hD : va_D A (wH ct h hd nl (fwS dc dl ge su (ends hd nl) (k + 1)) ++ wT ct a n dc pa va dl ge su) := hD
          exact ih10 (k + 1) (by first | assumption | omega) (by omega) H locs ls hP hD hS (lv_sub hl [0, 1, 2] rfl)
        · refine lv_aload_n hx hb dX0_findWinners_26 rfl (lv_at hl 2 rfl) ?_
          refine va_getN (D := D) (ci := 2) (v := .ref (a 1)) (C := RX2) (T := TX2) (N := 7) hx hb hts (fun _ h => List.mem_cons_of_mem _ (List.mem_append_right _ h)) hown hK.1 hP 4 rfl rfl 0 (by decide) (va_Nw.use rfl (hK.2 _ (List.mem_of_getElem? (i := 19) rfl))) (fun _ h9 => h9) rfl dX0_findWinners_27 ?_
          refine lv_iload_n hx hb dX0_findWinners_30 rfl (lv_at hl 0 rfl) ?_
          refine r_iald (j := k) (v := nI (dc k)) hx hb hK.1 hP 5 0 rfl rfl (by omega) (by first | decide | omega) rfl dX0_findWinners_31 ?_
          have f31 := hTd k
          refine lv_istore_n (lv' := [(3, .int (nI (dc k))), (2, .int (nI k)), (0, .ref (h 0)), (1, .ref (a 0))]) hx hb dX0_findWinners_32 rfl hl (by decide) rfl (fun ls hl => ?_)
          refine lv_aload_n hx hb dX0_findWinners_33 rfl (lv_at hl 2 rfl) ?_
          refine va_get (D := D) (ci := 0) (v := .ref (h 3)) (C := RX0) (T := TX0) (N := 3) hx hb hts (fun _ h => List.mem_cons_of_mem _ (List.mem_append_left _ (List.mem_append_right _ h))) hown hK.1 hP 0 rfl rfl 2 (by decide) (hts (.fieldLink RX0 19 "RevisionStores$Holding" "winners" "[I") (List.mem_of_getElem? (i := 1) rfl)) (fun _ h9 => h9) rfl dX0_findWinners_34 ?_
          refine lv_iload_n hx hb dX0_findWinners_37 rfl (lv_at hl 0 rfl) ?_
          refine r_iald (j := dc k) (v := eP ((fwS dc dl ge su (ends hd nl) k) (dc k))) hx hb hK.1 hP 3 0 rfl rfl (hTd _) (by first | decide | omega) rfl dX0_findWinners_38 ?_
          refine lv_istore (lv' := [(4, .int (eP ((fwS dc dl ge su (ends hd nl) k) (dc k)))), (3, .int (nI (dc k))), (2, .int (nI k)), (0, .ref (h 0)), (1, .ref (a 0))]) hx hb dX0_findWinners_39 hl (by decide) rfl (fun ls hl => ?_)
          refine lv_iload hx hb dX0_findWinners_41 (lv_at hl 0 rfl) ?_
          refine lv_iconst (v := -1) hx hb dX0_findWinners_43 (by decide) ?_
          refine r_icmp_eqP hx hb (x := (fwS dc dl ge su (ends hd nl) k) (dc k)) (by intro j9 h9; have := fwS_lt _ _ _ h9; omega) (tgt := 57) dX0_findWinners_44 (by decide) (fun c44 => ?_) (fun j44 c44 => ?_)
          · have hl := lv_re (f := fun z9 => [(4, .int z9), (3, .int (nI (dc k))), (2, .int (nI k)), (0, .ref (h 0)), (1, .ref (a 0))]) hl (show eP ((fwS dc dl ge su (ends hd nl) k) (dc k)) = eP none from congrArg eP c44)
            refine lv_aload_n hx hb dX0_findWinners_57 rfl (lv_at hl 3 rfl) ?_
            refine va_get (D := D) (ci := 0) (v := .ref (h 3)) (C := RX0) (T := TX0) (N := 3) hx hb hts (fun _ h => List.mem_cons_of_mem _ (List.mem_append_left _ (List.mem_append_right _ h))) hown hK.1 hP 0 rfl rfl 2 (by decide) (hts (.fieldLink RX0 19 "RevisionStores$Holding" "winners" "[I") (List.mem_of_getElem? (i := 1) rfl)) (fun _ h9 => h9) rfl dX0_findWinners_58 ?_
            refine lv_iload_n hx hb dX0_findWinners_61 rfl (lv_at hl 1 rfl) ?_
            refine lv_iload_n hx hb dX0_findWinners_62 rfl (lv_at hl 2 rfl) ?_
            refine r_iast (j := dc k) (x := (eP (some k))) (f' := fun k => eP ((va_up (fwS dc dl ge su (ends hd nl) k) (dc k) (some k)) k)) hx hb hK.1 hP hD hS 3 0 rfl rfl (hTd _) (by first | decide | omega) (up_p _ _ _) dX0_findWinners_63 (fun H locs hP hD hS => ?_)
            have hP : va_P D vwCl (wH ct h hd nl (va_up (fwS dc dl ge su (ends hd nl) k) (dc k) (some k)) ++ wT ct a n dc pa va dl ge su) H := hP
            have hD : va_D A (wH ct h hd nl (va_up (fwS dc dl ge su (ends hd nl) k) (dc k) (some k)) ++ wT ct a n dc pa va dl ge su) := hD
            refine lv_iinc (v := nI (k + 1)) (lv' := [(2, .int (nI (k + 1))), (4, .int (eP none)), (3, .int (nI (dc k))), (0, .ref (h 0)), (1, .ref (a 0))]) hx hb dX0_findWinners_64 hl (k := 2) rfl (nI_1 _) (by decide) rfl (fun ls hl => ?_)
            refine lv_goto (tgt := 10) hx hb dX0_findWinners_67 (by decide) ?_
            have e9 : va_up (fwS dc dl ge su (ends hd nl) k) (dc k) (some k) = fwS dc dl ge su (ends hd nl) (k + 1) := by show _ = fwp dc dl ge su (ends hd nl) k (fwS dc dl ge su (ends hd nl) k); simp [fwp, c15, c23, c44]
            rw [e9] at hP hD
            have hP : va_P D vwCl (wH ct h hd nl (fwS dc dl ge su (ends hd nl) (k + 1)) ++ wT ct a n dc pa va dl ge su) H := hP
            have hD : va_D A (wH ct h hd nl (fwS dc dl ge su (ends hd nl) (k + 1)) ++ wT ct a n dc pa va dl ge su) := hD
            exact ih10 (k + 1) (by first | assumption | omega) (by omega) H locs ls hP hD hS (lv_sub hl [0, 3, 4] rfl)
          · have hl := lv_re (f := fun z9 => [(4, .int z9), (3, .int (nI (dc k))), (2, .int (nI k)), (0, .ref (h 0)), (1, .ref (a 0))]) hl (show eP ((fwS dc dl ge su (ends hd nl) k) (dc k)) = nI j44 from congrArg eP c44)
            have e47 := fwS_lt _ _ _ c44
            refine lv_aload_n hx hb dX0_findWinners_47 rfl (lv_at hl 4 rfl) ?_
            refine lv_iload_n hx hb dX0_findWinners_48 rfl (lv_at hl 2 rfl) ?_
            refine lv_iload hx hb dX0_findWinners_49 (lv_at hl 0 rfl) ?_
            refine r_cV (As := [.int (nI k), .int (nI j44)]) (rest := []) ⟨hx, hb, hml, hown, hts⟩ (cX2_isBetter_ok l D ct a n dc pa va dl ge su k j44 (by first | assumption | omega) (by first | assumption | omega) (by first | assumption | omega)) (cwV 2 hts gX0_findWinners_X2_isBetter rfl rfl rfl (by decide +kernel) ⟨Nat.le_of_ble_eq_true rfl, Nat.le_of_ble_eq_true rfl⟩) hK (hP.sub (ws' := wT ct a n dc pa va dl ge su) [4, 5, 6, 7, 8, 9, 10] rfl) 0 2 rfl rfl rfl hl.1 rfl (Nat.le_of_ble_eq_true rfl) dX0_findWinners_51 ⟨Nat.le_of_ble_eq_true rfl, Nat.le_of_ble_eq_true rfl⟩ ?_
            refine r_if_eqB (x := btr dl ge su k j44) (tgt := 64) hx hb dX0_findWinners_54 (by decide) (fun c54 => ?_) (fun c54 => ?_)
            · refine lv_iinc (v := nI (k + 1)) (lv' := [(2, .int (nI (k + 1))), (4, .int (nI j44)), (3, .int (nI (dc k))), (0, .ref (h 0)), (1, .ref (a 0))]) hx hb dX0_findWinners_64 hl (k := 2) rfl (nI_1 _) (by decide) rfl (fun ls hl => ?_)
              refine lv_goto (tgt := 10) hx hb dX0_findWinners_67 (by decide) ?_
              have e9 : fwS dc dl ge su (ends hd nl) k = fwS dc dl ge su (ends hd nl) (k + 1) := by show _ = fwp dc dl ge su (ends hd nl) k (fwS dc dl ge su (ends hd nl) k); simp [fwp, c15, c23, c44, c54]
              rw [e9] at hP hD
              have hP : va_P D vwCl (wH ct h hd nl (fwS dc dl ge su (ends hd nl) (k + 1)) ++ wT ct a n dc pa va dl ge su) H := hP
              have hD : va_D A (wH ct h hd nl (fwS dc dl ge su (ends hd nl) (k + 1)) ++ wT ct a n dc pa va dl ge su) := hD
              exact ih10 (k + 1) (by first | assumption | omega) (by omega) H locs ls hP hD hS (lv_sub hl [0, 3, 4] rfl)
            · refine lv_aload_n hx hb dX0_findWinners_57 rfl (lv_at hl 3 rfl) ?_
              refine va_get (D := D) (ci := 0) (v := .ref (h 3)) (C := RX0) (T := TX0) (N := 3) hx hb hts (fun _ h => List.mem_cons_of_mem _ (List.mem_append_left _ (List.mem_append_right _ h))) hown hK.1 hP 0 rfl rfl 2 (by decide) (hts (.fieldLink RX0 19 "RevisionStores$Holding" "winners" "[I") (List.mem_of_getElem? (i := 1) rfl)) (fun _ h9 => h9) rfl dX0_findWinners_58 ?_
              refine lv_iload_n hx hb dX0_findWinners_61 rfl (lv_at hl 1 rfl) ?_
              refine lv_iload_n hx hb dX0_findWinners_62 rfl (lv_at hl 2 rfl) ?_
              refine r_iast (j := dc k) (x := (eP (some k))) (f' := fun k => eP ((va_up (fwS dc dl ge su (ends hd nl) k) (dc k) (some k)) k)) hx hb hK.1 hP hD hS 3 0 rfl rfl (hTd _) (by first | decide | omega) (up_p _ _ _) dX0_findWinners_63 (fun H locs hP hD hS => ?_)
              have hP : va_P D vwCl (wH ct h hd nl (va_up (fwS dc dl ge su (ends hd nl) k) (dc k) (some k)) ++ wT ct a n dc pa va dl ge su) H := hP
              have hD : va_D A (wH ct h hd nl (va_up (fwS dc dl ge su (ends hd nl) k) (dc k) (some k)) ++ wT ct a n dc pa va dl ge su) := hD
              refine lv_iinc (v := nI (k + 1)) (lv' := [(2, .int (nI (k + 1))), (4, .int (nI j44)), (3, .int (nI (dc k))), (0, .ref (h 0)), (1, .ref (a 0))]) hx hb dX0_findWinners_64 hl (k := 2) rfl (nI_1 _) (by decide) rfl (fun ls hl => ?_)
              refine lv_goto (tgt := 10) hx hb dX0_findWinners_67 (by decide) ?_
              have e9 : va_up (fwS dc dl ge su (ends hd nl) k) (dc k) (some k) = fwS dc dl ge su (ends hd nl) (k + 1) := by show _ = fwp dc dl ge su (ends hd nl) k (fwS dc dl ge su (ends hd nl) k); simp [fwp, c15, c23, c44, c54]
              rw [e9] at hP hD
              have hP : va_P D vwCl (wH ct h hd nl (fwS dc dl ge su (ends hd nl) (k + 1)) ++ wT ct a n dc pa va dl ge su) H := hP
              have hD : va_D A (wH ct h hd nl (fwS dc dl ge su (ends hd nl) (k + 1)) ++ wT ct a n dc pa va dl ge su) := hD
              exact ih10 (k + 1) (by first | assumption | omega) (by omega) H locs ls hP hD hS (lv_sub hl [0, 3, 4] rfl)
  have e9 : fun _ => none = fwS dc dl ge su (ends hd nl) 0 := rfl
  rw [e9] at hP hD
  have hP : va_P D vwCl (wH ct h hd nl (fwS dc dl ge su (ends hd nl) 0) ++ wT ct a n dc pa va dl ge su) H := hP
  have hD : va_D A (wH ct h hd nl (fwS dc dl ge su (ends hd nl) 0) ++ wT ct a n dc pa va dl ge su) := hD
  exact key10 ((n - 0) + 1) 0 (by first | assumption | omega) (Nat.lt_succ_self _) H locs ls hP hD hS (lv_sub hl [0, 1, 2] rfl)
set_option maxHeartbeats 8000000 in
set_option maxRecDepth 100000 in
theorem cX0_survey_ok (l : Launch) (D : va_G) (ct : Nat → ClassId) (h : Nat → Nat) (hd : Nat → Bool) (nl : Nat → Nat) (wi : Nat → Option Nat) (a : Nat → Nat) (n : Nat) (dc : Nat → Nat) (pa : Nat → Option Nat) (va : Nat → Int32) (dl : Nat → Bool) (ge : Nat → Nat) (su : Nat → Int32) (hn : n ≤ 150) (hTd : ∀ k, dc k < 4) (hTg : ∀ k, ge k ≤ 150) (hTp : ∀ k j, k < n → pa k = some j → j < k) (sz : Nat) : Met l yX0_survey wsX0_survey ({ frames := 3, cells := 0, slots := 0, locals := 66 } : Room) (wrPc D ct [.ref (h 0), .ref (a 0)] (wH ct h hd nl wi ++ wT ct a n dc pa va dl ge su) sz) (wqV D (wH ct h hd (flS pa ge hd n n) (fwS dc dl ge su (ends hd (flS pa ge hd n n)) n) ++ wT ct a n dc pa va dl ge su) (va_A (wH ct h hd nl wi ++ wT ct a n dc pa va dl ge su) sz)) 0 0 (va_A (wH ct h hd nl wi ++ wT ct a n dc pa va dl ge su) sz) := by
  refine Met.ofW (cc := cX0_survey) (maxL := 2) (ret := none) (by decide) rfl ?_
  intro p e s m args below meth c s₁ B hml hv
  obtain ⟨rfl, hsz, hP, hK, hD0⟩ := hv
  have hx := B.exec
  have hb := B.bytes
  have hr := B.returns
  have hts := atoms_spec (ws := wsX0_survey) B.pre
  have hown : s.vm.findClass RX0 = some m.cls := findClass_of_methodNamed B.named
  have hlocks := B.notSynchronized
  subst hsz
  have hD := hD0.self (sz := s.heap.size)
  generalize hAe : va_A (wH ct h hd nl wi ++ wT ct a n dc pa va dl ge su) s.heap.size = A at hD ⊢
  have hA : ∀ q : Nat, s.heap.size ≤ q → A q := fun q h => by rw [← hAe]; exact Or.inr h
  have hS : va_S A s.heap s.heap [] := va_S.rf
  have hP : va_P D vwCl (wH ct h hd nl wi ++ wT ct a n dc pa va dl ge su) s.heap := hP
  clear hAe hD0
  have hl := lv_entry ([.ref (h 0), .ref (a 0)]) (n := 2) (Nat.le_of_ble_eq_true rfl)
  rw [lg_entry_eq]
  generalize (lg_sl ([.ref (h 0), .ref (a 0)]) ++ List.replicate (2 - (lg_sl ([.ref (h 0), .ref (a 0)])).length) Slot.unset).toArray = ls at hl ⊢
  have hl : lv_has ls 2 [(0, .ref (h 0)), (1, .ref (a 0))] := hl
  have hH0 : s.heap.size ≤ s.heap.size := Nat.le_refl _
  refine lv_aload_n hx hb dX0_survey_0 rfl (lv_at hl 0 rfl) ?_
  refine lv_aload_n hx hb dX0_survey_1 rfl (lv_at hl 1 rfl) ?_
  refine r_wVv (As := [.ref (a 0)]) (rest := []) ⟨hx, hb, hml, hown, hts⟩ (cX0_findLeaves_ok l D ct h hd nl wi a n dc pa va dl ge su (by first | assumption | omega) (by first | assumption | omega) (by first | assumption | omega) s.heap.size) (cwV 1 hts gX0_survey_X0_findLeaves rfl rfl rfl (by decide +kernel) ⟨Nat.le_of_ble_eq_true rfl, Nat.le_of_ble_eq_true rfl⟩) hK hP hD hS hA [0, 1, 2, 3, 4, 5, 6, 7, 8, 9, 10] rfl rfl rfl 0 0 rfl rfl rfl hl.1 rfl (Nat.le_of_ble_eq_true rfl) dX0_survey_2 ⟨Nat.le_of_ble_eq_true rfl, Nat.le_of_ble_eq_true rfl⟩ (fun H locs hP hD hS => ?_)
  have hP : va_P D vwCl (wH ct h hd (flS pa ge hd n n) wi ++ wT ct a n dc pa va dl ge su) H := hP
  have hD : va_D A (wH ct h hd (flS pa ge hd n n) wi ++ wT ct a n dc pa va dl ge su) := hD
  refine lv_aload_n hx hb dX0_survey_5 rfl (lv_at hl 0 rfl) ?_
  refine lv_aload_n hx hb dX0_survey_6 rfl (lv_at hl 1 rfl) ?_
  refine r_wVv (As := [.ref (a 0)]) (rest := []) ⟨hx, hb, hml, hown, hts⟩ (cX0_findWinners_ok l D ct h hd (flS pa ge hd n n) wi a n dc pa va dl ge su (by first | assumption | omega) (by first | assumption | omega) (by first | assumption | omega) (fun k => flS_le _ k) H.size) (cwV 1 hts gX0_survey_X0_findWinners rfl rfl rfl (by decide +kernel) ⟨Nat.le_of_ble_eq_true rfl, Nat.le_of_ble_eq_true rfl⟩) hK hP hD hS hA [0, 1, 2, 3, 4, 5, 6, 7, 8, 9, 10] rfl rfl rfl 0 0 rfl rfl rfl hl.1 rfl (Nat.le_of_ble_eq_true rfl) dX0_survey_7 ⟨Nat.le_of_ble_eq_true rfl, Nat.le_of_ble_eq_true rfl⟩ (fun H locs hP hD hS => ?_)
  have hP : va_P D vwCl (wH ct h hd (flS pa ge hd n n) (fwS dc dl ge su (ends hd (flS pa ge hd n n)) n) ++ wT ct a n dc pa va dl ge su) H := hP
  have hD : va_D A (wH ct h hd (flS pa ge hd n n) (fwS dc dl ge su (ends hd (flS pa ge hd n n)) n) ++ wT ct a n dc pa va dl ge su) := hD
  have hP : va_P D vwCl (wH ct h hd (flS pa ge hd n n) (fwS dc dl ge su (ends hd (flS pa ge hd n n)) n) ++ wT ct a n dc pa va dl ge su) H := hP
  exact W.vret hx hb hr (fun t ht hW => ⟨⟨(), rfl, trivial, by rw [ht]; exact hP⟩, hS.F ht⟩) hS.2.2 dX0_survey_10
set_option maxHeartbeats 8000000 in
set_option maxRecDepth 100000 in
theorem cX0_stem_ok (l : Launch) (D : va_G) (ct : Nat → ClassId) (h : Nat → Nat) (hd : Nat → Bool) (nl : Nat → Nat) (wi : Nat → Option Nat) (a : Nat → Nat) (n : Nat) (dc : Nat → Nat) (pa : Nat → Option Nat) (va : Nat → Int32) (dl : Nat → Bool) (ge : Nat → Nat) (su : Nat → Int32) (dp : Int32) (hn : n ≤ 150) (hTg : ∀ k, ge k ≤ 150) (hNl : ∀ k, nl k ≤ 151) (sz : Nat) : Met l yX0_stem wsX0_stem ({ frames := 1, cells := 0, slots := 0, locals := 21 } : Room) (wrPc D ct [.ref (h 0), .ref (a 0), .int dp] (wH ct h hd nl wi ++ wT ct a n dc pa va dl ge su) sz) (wqI D (nI (fct (stC hd nl ge dp) n)) (wH ct h (stm hd nl ge dp n) nl wi ++ wT ct a n dc pa va dl ge su) (va_A (wH ct h hd nl wi ++ wT ct a n dc pa va dl ge su) sz)) 0 0 (va_A (wH ct h hd nl wi ++ wT ct a n dc pa va dl ge su) sz) := by
  refine Met.ofW (cc := cX0_stem) (maxL := 5) (ret := (some .int)) (by decide) rfl ?_
  intro p e s m args below meth c s₁ B hml hv
  obtain ⟨rfl, hsz, hP, hK, hD0⟩ := hv
  have hx := B.exec
  have hb := B.bytes
  have hr := B.returns
  have hts := atoms_spec (ws := wsX0_stem) B.pre
  have hown : s.vm.findClass RX0 = some m.cls := findClass_of_methodNamed B.named
  have hlocks := B.notSynchronized
  subst hsz
  have hD := hD0.self (sz := s.heap.size)
  generalize hAe : va_A (wH ct h hd nl wi ++ wT ct a n dc pa va dl ge su) s.heap.size = A at hD ⊢
  have hA : ∀ q : Nat, s.heap.size ≤ q → A q := fun q h => by rw [← hAe]; exact Or.inr h
  have hS : va_S A s.heap s.heap [] := va_S.rf
  have hP : va_P D vwCl (wH ct h hd nl wi ++ wT ct a n dc pa va dl ge su) s.heap := hP
  clear hAe hD0
  have hl := lv_entry ([.ref (h 0), .ref (a 0), .int dp]) (n := 5) (Nat.le_of_ble_eq_true rfl)
  rw [lg_entry_eq]
  generalize (lg_sl ([.ref (h 0), .ref (a 0), .int dp]) ++ List.replicate (5 - (lg_sl ([.ref (h 0), .ref (a 0), .int dp])).length) Slot.unset).toArray = ls at hl ⊢
  have hl : lv_has ls 5 [(0, .ref (h 0)), (1, .ref (a 0)), (2, .int dp)] := hl
  have hH0 : s.heap.size ≤ s.heap.size := Nat.le_refl _
  refine lv_iconst (v := nI 0) hx hb dX0_stem_0 (by decide) ?_
  refine lv_istore_n (lv' := [(3, .int (nI 0)), (0, .ref (h 0)), (1, .ref (a 0)), (2, .int dp)]) hx hb dX0_stem_1 rfl hl (by decide) rfl (fun ls hl => ?_)
  refine lv_iconst (v := nI 0) hx hb dX0_stem_2 (by decide) ?_
  refine lv_istore (lv' := [(4, .int (nI 0)), (3, .int (nI 0)), (0, .ref (h 0)), (1, .ref (a 0)), (2, .int dp)]) hx hb dX0_stem_3 hl (by decide) rfl (fun ls hl => ?_)
  have key5 : ∀ (d5 : Nat) (k : Nat) (hk : k ≤ n), n - k < d5 → ∀ (H : Heap) (locs : List Loc) (ls : Array Slot), va_P D vwCl (wH ct h (stm hd nl ge dp k) nl wi ++ wT ct a n dc pa va dl ge su) H → va_D A (wH ct h (stm hd nl ge dp k) nl wi ++ wT ct a n dc pa va dl ge su) → va_S A s.heap H locs → lv_has ls 5 [(4, .int (nI k)), (3, .int (nI (fct (stC hd nl ge dp) k))), (0, .ref (h 0)), (1, .ref (a 0)), (2, .int dp)] → W p l e ({ frames := 1, cells := 0, slots := 0, locals := 21 } : Room) s m ([.ref (h 0), .ref (a 0), .int dp] : List Value).toArray below meth c H locs 0 0 (MQ below (wqI D (nI (fct (stC hd nl ge dp) n)) (wH ct h (stm hd nl ge dp n) nl wi ++ wT ct a n dc pa va dl ge su) A) ([.ref (h 0), .ref (a 0), .int dp] : List Value).toArray s 0 0 A) (F0 m 5 ls []) := by
    intro d5
    induction d5 with
    | zero => intro k hk h9; exact absurd h9 (Nat.not_lt_zero _)
    | succ d5 ih5 =>
      intro k hk hm5 H locs ls hP hD hS hl
      refine lv_iload hx hb dX0_stem_5 (lv_at hl 0 rfl) ?_
      refine lv_aload_n hx hb dX0_stem_7 rfl (lv_at hl 3 rfl) ?_
      refine va_getN (D := D) (ci := 2) (v := .int (nI n)) (C := RX2) (T := TX2) (N := 7) hx hb hts (fun _ h => List.mem_cons_of_mem _ (List.mem_append_left _ (List.mem_append_right _ h))) hown hK.1 hP 4 rfl rfl 6 (by decide) (va_Nw.use rfl (hK.2 _ (List.mem_of_getElem? (i := 16) rfl))) (fun _ h9 => h9) rfl dX0_stem_8 ?_
      refine r_icmp_geN hx hb (x := k) (y := n) (by first | omega | decide) (by first | omega | decide) (tgt := 69) dX0_stem_11 (by decide) (fun c11 => ?_) (fun c11 => ?_)
      · refine lv_iload_n hx hb dX0_stem_69 rfl (lv_at hl 1 rfl) ?_
        refine r_top (y := nI (fct (stC hd nl ge dp) n)) (by rw [show k = n by omega]) ?_
        have e9 : stm hd nl ge dp k = stm hd nl ge dp n := by rw [show k = n by omega]
        rw [e9] at hP
        have hP : va_P D vwCl (wH ct h (stm hd nl ge dp n) nl wi ++ wT ct a n dc pa va dl ge su) H := hP
        exact W.iret hx hb hr (fun t ht hW => ⟨⟨_, (), rfl, rfl, by rw [ht]; exact hP⟩, hS.F ht⟩) hS.2.2 dX0_stem_70
      · refine lv_aload_n hx hb dX0_stem_14 rfl (lv_at hl 2 rfl) ?_
        refine va_get (D := D) (ci := 0) (v := .ref (h 1)) (C := RX0) (T := TX0) (N := 3) hx hb hts (fun _ h => List.mem_cons_of_mem _ (List.mem_append_right _ h)) hown hK.1 hP 0 rfl rfl 0 (by decide) (hts (.fieldLink RX0 9 "RevisionStores$Holding" "held" "[Z") (List.mem_of_getElem? (i := 1) rfl)) (fun _ h9 => h9) rfl dX0_stem_15 ?_
        refine lv_iload hx hb dX0_stem_18 (lv_at hl 0 rfl) ?_
        refine r_zald (j := k) (v := bI ((stm hd nl ge dp k) k)) hx hb hK.1 hP 1 1 rfl rfl (by omega) (by first | decide | omega) rfl dX0_stem_20 ?_
        refine r_top (y := bI (hd k)) (by rw [stm_k]) ?_
        refine r_if_eqB (x := hd k) (tgt := 63) hx hb dX0_stem_21 (by decide) (fun c21 => ?_) (fun c21 => ?_)
        · refine lv_iinc (v := nI (k + 1)) (lv' := [(4, .int (nI (k + 1))), (3, .int (nI (fct (stC hd nl ge dp) k))), (0, .ref (h 0)), (1, .ref (a 0)), (2, .int dp)]) hx hb dX0_stem_63 hl (k := 0) rfl (nI_1 _) (by decide) rfl (fun ls hl => ?_)
          refine lv_goto (tgt := 5) hx hb dX0_stem_66 (by decide) ?_
          have hl := lv_re (f := fun z9 => [(4, .int (nI (k + 1))), (3, .int z9), (0, .ref (h 0)), (1, .ref (a 0)), (2, .int dp)]) hl (show nI (fct (stC hd nl ge dp) k) = nI (fct (stC hd nl ge dp) (k + 1)) from by simp [fct, stC, c11, c21])
          have e9 : stm hd nl ge dp k = stm hd nl ge dp (k + 1) := by first | exact stm_t (by simp [stC, c11, c21]) | exact stm_f (by simp [stC, c11, c21])
          rw [e9] at hP hD
          have hP : va_P D vwCl (wH ct h (stm hd nl ge dp (k + 1)) nl wi ++ wT ct a n dc pa va dl ge su) H := hP
          have hD : va_D A (wH ct h (stm hd nl ge dp (k + 1)) nl wi ++ wT ct a n dc pa va dl ge su) := hD
          exact ih5 (k + 1) (by first | assumption | omega) (by omega) H locs ls hP hD hS (lv_sub hl [0, 1, 2, 3, 4] rfl)
        · refine lv_aload_n hx hb dX0_stem_24 rfl (lv_at hl 2 rfl) ?_
          refine lv_iload hx hb dX0_stem_25 (lv_at hl 0 rfl) ?_
          refine r_cV (As := [.int (nI k)]) (rest := []) ⟨hx, hb, hml, hown, hts⟩ (cX0_hasDescendantOf_ok l D ct h (stm hd nl ge dp k) nl wi k (by first | assumption | omega) (hNl _)) (cwV 1 hts gX0_stem_X0_hasDescendantOf rfl rfl rfl (by decide +kernel) ⟨Nat.le_of_ble_eq_true rfl, Nat.le_of_ble_eq_true rfl⟩) hK (hP.sub (ws' := wH ct h (stm hd nl ge dp k) nl wi) [0, 1, 2, 3] rfl) 0 0 rfl rfl rfl hl.1 rfl (Nat.le_of_ble_eq_true rfl) dX0_stem_27 ⟨Nat.le_of_ble_eq_true rfl, Nat.le_of_ble_eq_true rfl⟩ ?_
          refine r_if_eqB (x := hasD nl k) (tgt := 63) hx hb dX0_stem_30 (by decide) (fun c30 => ?_) (fun c30 => ?_)
          · refine lv_iinc (v := nI (k + 1)) (lv' := [(4, .int (nI (k + 1))), (3, .int (nI (fct (stC hd nl ge dp) k))), (0, .ref (h 0)), (1, .ref (a 0)), (2, .int dp)]) hx hb dX0_stem_63 hl (k := 0) rfl (nI_1 _) (by decide) rfl (fun ls hl => ?_)
            refine lv_goto (tgt := 5) hx hb dX0_stem_66 (by decide) ?_
            have hl := lv_re (f := fun z9 => [(4, .int (nI (k + 1))), (3, .int z9), (0, .ref (h 0)), (1, .ref (a 0)), (2, .int dp)]) hl (show nI (fct (stC hd nl ge dp) k) = nI (fct (stC hd nl ge dp) (k + 1)) from by simp [fct, stC, c11, c21, c30])
            have e9 : stm hd nl ge dp k = stm hd nl ge dp (k + 1) := by first | exact stm_t (by simp [stC, c11, c21, c30]) | exact stm_f (by simp [stC, c11, c21, c30])
            rw [e9] at hP hD
            have hP : va_P D vwCl (wH ct h (stm hd nl ge dp (k + 1)) nl wi ++ wT ct a n dc pa va dl ge su) H := hP
            have hD : va_D A (wH ct h (stm hd nl ge dp (k + 1)) nl wi ++ wT ct a n dc pa va dl ge su) := hD
            exact ih5 (k + 1) (by first | assumption | omega) (by omega) H locs ls hP hD hS (lv_sub hl [0, 1, 2, 3, 4] rfl)
          · refine lv_aload_n hx hb dX0_stem_33 rfl (lv_at hl 2 rfl) ?_
            refine va_get (D := D) (ci := 0) (v := .ref (h 2)) (C := RX0) (T := TX0) (N := 3) hx hb hts (fun _ h => List.mem_cons_of_mem _ (List.mem_append_right _ h)) hown hK.1 hP 0 rfl rfl 1 (by decide) (hts (.fieldLink RX0 15 "RevisionStores$Holding" "nearestLeaf" "[I") (List.mem_of_getElem? (i := 2) rfl)) (fun _ h9 => h9) rfl dX0_stem_34 ?_
            refine lv_iload hx hb dX0_stem_37 (lv_at hl 0 rfl) ?_
            refine r_iald (j := k) (v := nI (nl k)) hx hb hK.1 hP 2 0 rfl rfl (by omega) (by first | decide | omega) rfl dX0_stem_39 ?_
            have f39 := hNl k
            refine lv_aload_n hx hb dX0_stem_40 rfl (lv_at hl 3 rfl) ?_
            refine va_getN (D := D) (ci := 2) (v := .ref (a 5)) (C := RX2) (T := TX2) (N := 7) hx hb hts (fun _ h => List.mem_cons_of_mem _ (List.mem_append_left _ (List.mem_append_right _ h))) hown hK.1 hP 4 rfl rfl 4 (by decide) (va_Nw.use rfl (hK.2 _ (List.mem_of_getElem? (i := 18) rfl))) (fun _ h9 => h9) rfl dX0_stem_41 ?_
            refine lv_iload hx hb dX0_stem_44 (lv_at hl 0 rfl) ?_
            refine r_iald (j := k) (v := nI (ge k)) hx hb hK.1 hP 9 0 rfl rfl (by omega) (by first | decide | omega) rfl dX0_stem_46 ?_
            have f46 := hTg k
            refine lv_isub hx hb dX0_stem_47 ?_
            refine lv_iload_n hx hb dX0_stem_48 rfl (lv_at hl 4 rfl) ?_
            refine lv_icmp_lt (x := (nI (nl k)) - (nI (ge k))) (y := dp) (tgt := 63) hx hb dX0_stem_49 (by decide) (fun c49 => ?_) (fun c49 => ?_)
            · refine lv_iinc (v := nI (k + 1)) (lv' := [(4, .int (nI (k + 1))), (3, .int (nI (fct (stC hd nl ge dp) k))), (0, .ref (h 0)), (1, .ref (a 0)), (2, .int dp)]) hx hb dX0_stem_63 hl (k := 0) rfl (nI_1 _) (by decide) rfl (fun ls hl => ?_)
              refine lv_goto (tgt := 5) hx hb dX0_stem_66 (by decide) ?_
              have hl := lv_re (f := fun z9 => [(4, .int (nI (k + 1))), (3, .int z9), (0, .ref (h 0)), (1, .ref (a 0)), (2, .int dp)]) hl (show nI (fct (stC hd nl ge dp) k) = nI (fct (stC hd nl ge dp) (k + 1)) from by simp [fct, stC, c11, c21, c30, c49])
              have e9 : stm hd nl ge dp k = stm hd nl ge dp (k + 1) := by first | exact stm_t (by simp [stC, c11, c21, c30, c49]) | exact stm_f (by simp [stC, c11, c21, c30, c49])
              rw [e9] at hP hD
              have hP : va_P D vwCl (wH ct h (stm hd nl ge dp (k + 1)) nl wi ++ wT ct a n dc pa va dl ge su) H := hP
              have hD : va_D A (wH ct h (stm hd nl ge dp (k + 1)) nl wi ++ wT ct a n dc pa va dl ge su) := hD
              exact ih5 (k + 1) (by first | assumption | omega) (by omega) H locs ls hP hD hS (lv_sub hl [0, 1, 2, 3, 4] rfl)
            · refine lv_aload_n hx hb dX0_stem_52 rfl (lv_at hl 2 rfl) ?_
              refine va_get (D := D) (ci := 0) (v := .ref (h 1)) (C := RX0) (T := TX0) (N := 3) hx hb hts (fun _ h => List.mem_cons_of_mem _ (List.mem_append_right _ h)) hown hK.1 hP 0 rfl rfl 0 (by decide) (hts (.fieldLink RX0 9 "RevisionStores$Holding" "held" "[Z") (List.mem_of_getElem? (i := 1) rfl)) (fun _ h9 => h9) rfl dX0_stem_53 ?_
              refine lv_iload hx hb dX0_stem_56 (lv_at hl 0 rfl) ?_
              refine lv_iconst (v := nI 0) hx hb dX0_stem_58 (by decide) ?_
              refine r_zast (j := k) (x := false) (f' := fun k => bI ((va_up (stm hd nl ge dp k) k false) k)) hx hb hK.1 hP hD hS 1 1 rfl rfl (by omega) (by first | decide | omega) (up_b _ _ _) dX0_stem_59 (fun H locs hP hD hS => ?_)
              have hP : va_P D vwCl (wH ct h (va_up (stm hd nl ge dp k) k false) nl wi ++ wT ct a n dc pa va dl ge su) H := hP
              have hD : va_D A (wH ct h (va_up (stm hd nl ge dp k) k false) nl wi ++ wT ct a n dc pa va dl ge su) := hD
              refine lv_iinc (v := nI (fct (stC hd nl ge dp) k + 1)) (lv' := [(3, .int (nI (fct (stC hd nl ge dp) k + 1))), (4, .int (nI k)), (0, .ref (h 0)), (1, .ref (a 0)), (2, .int dp)]) hx hb dX0_stem_60 hl (k := 1) rfl (nI_1 _) (by decide) rfl (fun ls hl => ?_)
              refine lv_iinc (v := nI (k + 1)) (lv' := [(4, .int (nI (k + 1))), (3, .int (nI (fct (stC hd nl ge dp) k + 1))), (0, .ref (h 0)), (1, .ref (a 0)), (2, .int dp)]) hx hb dX0_stem_63 hl (k := 1) rfl (nI_1 _) (by decide) rfl (fun ls hl => ?_)
              refine lv_goto (tgt := 5) hx hb dX0_stem_66 (by decide) ?_
              have hl := lv_re (f := fun z9 => [(4, .int (nI (k + 1))), (3, .int z9), (0, .ref (h 0)), (1, .ref (a 0)), (2, .int dp)]) hl (show nI (fct (stC hd nl ge dp) k + 1) = nI (fct (stC hd nl ge dp) (k + 1)) from by simp [fct, stC, c11, c21, c30, c49])
              have e9 : va_up (stm hd nl ge dp k) k false = stm hd nl ge dp (k + 1) := by first | exact stm_t (by simp [stC, c11, c21, c30, c49]) | exact stm_f (by simp [stC, c11, c21, c30, c49])
              rw [e9] at hP hD
              have hP : va_P D vwCl (wH ct h (stm hd nl ge dp (k + 1)) nl wi ++ wT ct a n dc pa va dl ge su) H := hP
              have hD : va_D A (wH ct h (stm hd nl ge dp (k + 1)) nl wi ++ wT ct a n dc pa va dl ge su) := hD
              exact ih5 (k + 1) (by first | assumption | omega) (by omega) H locs ls hP hD hS (lv_sub hl [0, 1, 2, 3, 4] rfl)
  have e9 : hd = stm hd nl ge dp 0 := stm_0 _ _ _ _
  rw [e9] at hP hD
  have hP : va_P D vwCl (wH ct h (stm hd nl ge dp 0) nl wi ++ wT ct a n dc pa va dl ge su) s.heap := hP
  have hD : va_D A (wH ct h (stm hd nl ge dp 0) nl wi ++ wT ct a n dc pa va dl ge su) := hD
  exact key5 ((n - 0) + 1) 0 (by first | assumption | omega) (Nat.lt_succ_self _) _ _ ls hP hD hS (lv_sub hl [0, 1, 2, 3, 4] rfl)
set_option maxHeartbeats 8000000 in
set_option maxRecDepth 100000 in
theorem cX0_removeAll_ok (l : Launch) (D : va_G) (ct : Nat → ClassId) (h : Nat → Nat) (hd : Nat → Bool) (nl : Nat → Nat) (wi : Nat → Option Nat)  (sz : Nat) : Met l yX0_removeAll wsX0_removeAll ({ frames := 0, cells := 0, slots := 0, locals := 0 } : Room) (wrPc D ct [.ref (h 0)] (wH ct h hd nl wi) sz) (wqV D (wH ct h (rem hd 150) nl wi) (va_A (wH ct h hd nl wi) sz)) 0 0 (va_A (wH ct h hd nl wi) sz) := by
  refine Met.ofW (cc := cX0_removeAll) (maxL := 2) (ret := none) (by decide) rfl ?_
  intro p e s m args below meth c s₁ B hml hv
  obtain ⟨rfl, hsz, hP, hK, hD0⟩ := hv
  have hx := B.exec
  have hb := B.bytes
  have hr := B.returns
  have hts := atoms_spec (ws := wsX0_removeAll) B.pre
  have hown : s.vm.findClass RX0 = some m.cls := findClass_of_methodNamed B.named
  have hlocks := B.notSynchronized
  subst hsz
  have hD := hD0.self (sz := s.heap.size)
  generalize hAe : va_A (wH ct h hd nl wi) s.heap.size = A at hD ⊢
  have hA : ∀ q : Nat, s.heap.size ≤ q → A q := fun q h => by rw [← hAe]; exact Or.inr h
  have hS : va_S A s.heap s.heap [] := va_S.rf
  have hP : va_P D vwCl (wH ct h hd nl wi) s.heap := hP
  clear hAe hD0
  have hl := lv_entry ([.ref (h 0)]) (n := 2) (Nat.le_of_ble_eq_true rfl)
  rw [lg_entry_eq]
  generalize (lg_sl ([.ref (h 0)]) ++ List.replicate (2 - (lg_sl ([.ref (h 0)])).length) Slot.unset).toArray = ls at hl ⊢
  have hl : lv_has ls 2 [(0, .ref (h 0))] := hl
  have hH0 : s.heap.size ≤ s.heap.size := Nat.le_refl _
  refine lv_iconst (v := nI 0) hx hb dX0_removeAll_0 (by decide) ?_
  refine lv_istore_n (lv' := [(1, .int (nI 0)), (0, .ref (h 0))]) hx hb dX0_removeAll_1 rfl hl (by decide) rfl (fun ls hl => ?_)
  have key2 : ∀ (d2 : Nat) (k : Nat) (hk : k ≤ 150), 150 - k < d2 → ∀ (H : Heap) (locs : List Loc) (ls : Array Slot), va_P D vwCl (wH ct h (rem hd k) nl wi) H → va_D A (wH ct h (rem hd k) nl wi) → va_S A s.heap H locs → lv_has ls 2 [(1, .int (nI k)), (0, .ref (h 0))] → W p l e ({ frames := 0, cells := 0, slots := 0, locals := 0 } : Room) s m ([.ref (h 0)] : List Value).toArray below meth c H locs 0 0 (MQ below (wqV D (wH ct h (rem hd 150) nl wi) A) ([.ref (h 0)] : List Value).toArray s 0 0 A) (F0 m 2 ls []) := by
    intro d2
    induction d2 with
    | zero => intro k hk h9; exact absurd h9 (Nat.not_lt_zero _)
    | succ d2 ih2 =>
      intro k hk hm2 H locs ls hP hD hS hl
      refine lv_iload_n hx hb dX0_removeAll_2 rfl (lv_at hl 0 rfl) ?_
      refine lv_sipush (v := nI 150) hx hb dX0_removeAll_3 (by decide) ?_
      refine r_icmp_geN hx hb (x := k) (y := 150) (by first | omega | decide) (by first | omega | decide) (tgt := 22) dX0_removeAll_6 (by decide) (fun c6 => ?_) (fun c6 => ?_)
      · have e9 : rem hd k = rem hd 150 := by rw [show k = 150 by omega]
        rw [e9] at hP
        have hP : va_P D vwCl (wH ct h (rem hd 150) nl wi) H := hP
        exact W.vret hx hb hr (fun t ht hW => ⟨⟨(), rfl, trivial, by rw [ht]; exact hP⟩, hS.F ht⟩) hS.2.2 dX0_removeAll_22
      · refine lv_aload_n hx hb dX0_removeAll_9 rfl (lv_at hl 1 rfl) ?_
        refine va_get (D := D) (ci := 0) (v := .ref (h 1)) (C := RX0) (T := TX0) (N := 3) hx hb hts (fun _ h => List.mem_cons_of_mem _ (List.mem_append_right _ h)) hown hK.1 hP 0 rfl rfl 0 (by decide) (hts (.fieldLink RX0 9 "RevisionStores$Holding" "held" "[Z") (List.mem_of_getElem? (i := 1) rfl)) (fun _ h9 => h9) rfl dX0_removeAll_10 ?_
        refine lv_iload_n hx hb dX0_removeAll_13 rfl (lv_at hl 0 rfl) ?_
        refine lv_iconst (v := nI 0) hx hb dX0_removeAll_14 (by decide) ?_
        refine r_zast (j := k) (x := false) (f' := fun k => bI ((va_up (rem hd k) k false) k)) hx hb hK.1 hP hD hS 1 1 rfl rfl (by omega) (by first | decide | omega) (up_b _ _ _) dX0_removeAll_15 (fun H locs hP hD hS => ?_)
        have hP : va_P D vwCl (wH ct h (va_up (rem hd k) k false) nl wi) H := hP
        have hD : va_D A (wH ct h (va_up (rem hd k) k false) nl wi) := hD
        refine lv_iinc (v := nI (k + 1)) (lv' := [(1, .int (nI (k + 1))), (0, .ref (h 0))]) hx hb dX0_removeAll_16 hl (k := 0) rfl (nI_1 _) (by decide) rfl (fun ls hl => ?_)
        refine lv_goto (tgt := 2) hx hb dX0_removeAll_19 (by decide) ?_
        have e9 : va_up (rem hd k) k false = rem hd (k + 1) := rem_s _ _
        rw [e9] at hP hD
        have hP : va_P D vwCl (wH ct h (rem hd (k + 1)) nl wi) H := hP
        have hD : va_D A (wH ct h (rem hd (k + 1)) nl wi) := hD
        exact ih2 (k + 1) (by first | assumption | omega) (by omega) H locs ls hP hD hS (lv_sub hl [0, 1] rfl)
  have e9 : hd = rem hd 0 := rem_0 _
  rw [e9] at hP hD
  have hP : va_P D vwCl (wH ct h (rem hd 0) nl wi) s.heap := hP
  have hD : va_D A (wH ct h (rem hd 0) nl wi) := hD
  exact key2 ((150 - 0) + 1) 0 (by first | assumption | omega) (Nat.lt_succ_self _) _ _ ls hP hD hS (lv_sub hl [0, 1] rfl)
set_option maxHeartbeats 8000000 in
set_option maxRecDepth 100000 in
theorem cX0_addAll_ok (l : Launch) (D : va_G) (ct : Nat → ClassId) (h : Nat → Nat) (hd : Nat → Bool) (nl : Nat → Nat) (wi : Nat → Option Nat) (a : Nat → Nat) (n : Nat) (dc : Nat → Nat) (pa : Nat → Option Nat) (va : Nat → Int32) (dl : Nat → Bool) (ge : Nat → Nat) (su : Nat → Int32) (g : Nat → Nat) (hd2 : Nat → Bool) (nl2 : Nat → Nat) (wi2 : Nat → Option Nat) (hn : n ≤ 150) (sz : Nat) : Met l yX0_addAll wsX0_addAll ({ frames := 0, cells := 0, slots := 0, locals := 0 } : Room) (wrPc D ct [.ref (h 0), .ref (a 0), .ref (g 0)] (wH ct h hd nl wi ++ wT ct a n dc pa va dl ge su ++ wH ct g hd2 nl2 wi2) sz) (wqV D (wH ct h (uni hd hd2 n) nl wi ++ wT ct a n dc pa va dl ge su ++ wH ct g hd2 nl2 wi2) (va_A (wH ct h hd nl wi ++ wT ct a n dc pa va dl ge su ++ wH ct g hd2 nl2 wi2) sz)) 0 0 (va_A (wH ct h hd nl wi ++ wT ct a n dc pa va dl ge su ++ wH ct g hd2 nl2 wi2) sz) := by
  refine Met.ofW (cc := cX0_addAll) (maxL := 4) (ret := none) (by decide) rfl ?_
  intro p e s m args below meth c s₁ B hml hv
  obtain ⟨rfl, hsz, hP, hK, hD0⟩ := hv
  have hx := B.exec
  have hb := B.bytes
  have hr := B.returns
  have hts := atoms_spec (ws := wsX0_addAll) B.pre
  have hown : s.vm.findClass RX0 = some m.cls := findClass_of_methodNamed B.named
  have hlocks := B.notSynchronized
  subst hsz
  have hD := hD0.self (sz := s.heap.size)
  generalize hAe : va_A (wH ct h hd nl wi ++ wT ct a n dc pa va dl ge su ++ wH ct g hd2 nl2 wi2) s.heap.size = A at hD ⊢
  have hA : ∀ q : Nat, s.heap.size ≤ q → A q := fun q h => by rw [← hAe]; exact Or.inr h
  have hS : va_S A s.heap s.heap [] := va_S.rf
  have hP : va_P D vwCl (wH ct h hd nl wi ++ wT ct a n dc pa va dl ge su ++ wH ct g hd2 nl2 wi2) s.heap := hP
  clear hAe hD0
  have hl := lv_entry ([.ref (h 0), .ref (a 0), .ref (g 0)]) (n := 4) (Nat.le_of_ble_eq_true rfl)
  rw [lg_entry_eq]
  generalize (lg_sl ([.ref (h 0), .ref (a 0), .ref (g 0)]) ++ List.replicate (4 - (lg_sl ([.ref (h 0), .ref (a 0), .ref (g 0)])).length) Slot.unset).toArray = ls at hl ⊢
  have hl : lv_has ls 4 [(0, .ref (h 0)), (1, .ref (a 0)), (2, .ref (g 0))] := hl
  have hH0 : s.heap.size ≤ s.heap.size := Nat.le_refl _
  refine lv_iconst (v := nI 0) hx hb dX0_addAll_0 (by decide) ?_
  refine lv_istore_n (lv' := [(3, .int (nI 0)), (0, .ref (h 0)), (1, .ref (a 0)), (2, .ref (g 0))]) hx hb dX0_addAll_1 rfl hl (by decide) rfl (fun ls hl => ?_)
  have key2 : ∀ (d2 : Nat) (k : Nat) (hk : k ≤ n), n - k < d2 → ∀ (H : Heap) (locs : List Loc) (ls : Array Slot), va_P D vwCl (wH ct h (uni hd hd2 k) nl wi ++ wT ct a n dc pa va dl ge su ++ wH ct g hd2 nl2 wi2) H → va_D A (wH ct h (uni hd hd2 k) nl wi ++ wT ct a n dc pa va dl ge su ++ wH ct g hd2 nl2 wi2) → va_S A s.heap H locs → lv_has ls 4 [(3, .int (nI k)), (0, .ref (h 0)), (1, .ref (a 0)), (2, .ref (g 0))] → W p l e ({ frames := 0, cells := 0, slots := 0, locals := 0 } : Room) s m ([.ref (h 0), .ref (a 0), .ref (g 0)] : List Value).toArray below meth c H locs 0 0 (MQ below (wqV D (wH ct h (uni hd hd2 n) nl wi ++ wT ct a n dc pa va dl ge su ++ wH ct g hd2 nl2 wi2) A) ([.ref (h 0), .ref (a 0), .ref (g 0)] : List Value).toArray s 0 0 A) (F0 m 2 ls []) := by
    intro d2
    induction d2 with
    | zero => intro k hk h9; exact absurd h9 (Nat.not_lt_zero _)
    | succ d2 ih2 =>
      intro k hk hm2 H locs ls hP hD hS hl
      refine lv_iload_n hx hb dX0_addAll_2 rfl (lv_at hl 0 rfl) ?_
      refine lv_aload_n hx hb dX0_addAll_3 rfl (lv_at hl 2 rfl) ?_
      refine va_getN (D := D) (ci := 2) (v := .int (nI n)) (C := RX2) (T := TX2) (N := 7) hx hb hts (fun _ h => List.mem_cons_of_mem _ (List.mem_append_left _ (List.mem_append_right _ h))) hown hK.1 hP 4 rfl rfl 6 (by decide) (va_Nw.use rfl (hK.2 _ (List.mem_of_getElem? (i := 16) rfl))) (fun _ h9 => h9) rfl dX0_addAll_4 ?_
      refine r_icmp_geN hx hb (x := k) (y := n) (by first | omega | decide) (by first | omega | decide) (tgt := 45) dX0_addAll_7 (by decide) (fun c7 => ?_) (fun c7 => ?_)
      · have e9 : uni hd hd2 k = uni hd hd2 n := by rw [show k = n by omega]
        rw [e9] at hP
        have hP : va_P D vwCl (wH ct h (uni hd hd2 n) nl wi ++ wT ct a n dc pa va dl ge su ++ wH ct g hd2 nl2 wi2) H := hP
        exact W.vret hx hb hr (fun t ht hW => ⟨⟨(), rfl, trivial, by rw [ht]; exact hP⟩, hS.F ht⟩) hS.2.2 dX0_addAll_45
      · refine lv_aload_n hx hb dX0_addAll_10 rfl (lv_at hl 1 rfl) ?_
        refine va_get (D := D) (ci := 0) (v := .ref (h 1)) (C := RX0) (T := TX0) (N := 3) hx hb hts (fun _ h => List.mem_cons_of_mem _ (List.mem_append_right _ h)) hown hK.1 hP 0 rfl rfl 0 (by decide) (hts (.fieldLink RX0 9 "RevisionStores$Holding" "held" "[Z") (List.mem_of_getElem? (i := 1) rfl)) (fun _ h9 => h9) rfl dX0_addAll_11 ?_
        refine lv_iload_n hx hb dX0_addAll_14 rfl (lv_at hl 0 rfl) ?_
        refine lv_aload_n hx hb dX0_addAll_15 rfl (lv_at hl 1 rfl) ?_
        refine va_get (D := D) (ci := 0) (v := .ref (h 1)) (C := RX0) (T := TX0) (N := 3) hx hb hts (fun _ h => List.mem_cons_of_mem _ (List.mem_append_right _ h)) hown hK.1 hP 0 rfl rfl 0 (by decide) (hts (.fieldLink RX0 9 "RevisionStores$Holding" "held" "[Z") (List.mem_of_getElem? (i := 1) rfl)) (fun _ h9 => h9) rfl dX0_addAll_16 ?_
        refine lv_iload_n hx hb dX0_addAll_19 rfl (lv_at hl 0 rfl) ?_
        refine r_zald (j := k) (v := bI ((uni hd hd2 k) k)) hx hb hK.1 hP 1 1 rfl rfl (by omega) (by first | decide | omega) rfl dX0_addAll_20 ?_
        refine r_top (y := bI (hd k)) (by rw [uni_k]) ?_
        refine r_if_neB (x := hd k) (tgt := 33) hx hb dX0_addAll_21 (by decide) (fun c21 => ?_) (fun c21 => ?_)
        · refine lv_iconst (v := nI 1) hx hb dX0_addAll_33 (by decide) ?_
          refine lv_goto (tgt := 38) hx hb dX0_addAll_34 (by decide) ?_
          refine r_top (y := bI (hd k || hd2 k)) (by simp [bI, c7, c21]) ?_
          refine r_zast (j := k) (x := (hd k || hd2 k)) (f' := fun k => bI ((va_up (uni hd hd2 k) k (hd k || hd2 k)) k)) hx hb hK.1 hP hD hS 1 1 rfl rfl (by omega) (by first | decide | omega) (up_b _ _ _) dX0_addAll_38 (fun H locs hP hD hS => ?_)
          have hP : va_P D vwCl (wH ct h (va_up (uni hd hd2 k) k (hd k || hd2 k)) nl wi ++ wT ct a n dc pa va dl ge su ++ wH ct g hd2 nl2 wi2) H := hP
          have hD : va_D A (wH ct h (va_up (uni hd hd2 k) k (hd k || hd2 k)) nl wi ++ wT ct a n dc pa va dl ge su ++ wH ct g hd2 nl2 wi2) := hD
          refine lv_iinc (v := nI (k + 1)) (lv' := [(3, .int (nI (k + 1))), (0, .ref (h 0)), (1, .ref (a 0)), (2, .ref (g 0))]) hx hb dX0_addAll_39 hl (k := 0) rfl (nI_1 _) (by decide) rfl (fun ls hl => ?_)
          refine lv_goto (tgt := 2) hx hb dX0_addAll_42 (by decide) ?_
          have e9 : va_up (uni hd hd2 k) k (hd k || hd2 k) = uni hd hd2 (k + 1) := uni_s _ _ _
          rw [e9] at hP hD
          have hP : va_P D vwCl (wH ct h (uni hd hd2 (k + 1)) nl wi ++ wT ct a n dc pa va dl ge su ++ wH ct g hd2 nl2 wi2) H := hP
          have hD : va_D A (wH ct h (uni hd hd2 (k + 1)) nl wi ++ wT ct a n dc pa va dl ge su ++ wH ct g hd2 nl2 wi2) := hD
          exact ih2 (k + 1) (by first | assumption | omega) (by omega) H locs ls hP hD hS (lv_sub hl [0, 1, 2, 3] rfl)
        · refine lv_aload_n hx hb dX0_addAll_24 rfl (lv_at hl 3 rfl) ?_
          refine va_get (D := D) (ci := 0) (v := .ref (g 1)) (C := RX0) (T := TX0) (N := 3) hx hb hts (fun _ h => List.mem_cons_of_mem _ (List.mem_append_right _ h)) hown hK.1 hP 11 rfl rfl 0 (by decide) (hts (.fieldLink RX0 9 "RevisionStores$Holding" "held" "[Z") (List.mem_of_getElem? (i := 1) rfl)) (fun _ h9 => h9) rfl dX0_addAll_25 ?_
          refine lv_iload_n hx hb dX0_addAll_28 rfl (lv_at hl 0 rfl) ?_
          refine r_zald (j := k) (v := bI (hd2 k)) hx hb hK.1 hP 12 1 rfl rfl (by omega) (by first | decide | omega) rfl dX0_addAll_29 ?_
          refine r_if_eqB (x := hd2 k) (tgt := 37) hx hb dX0_addAll_30 (by decide) (fun c30 => ?_) (fun c30 => ?_)
          · refine lv_iconst (v := nI 0) hx hb dX0_addAll_37 (by decide) ?_
            refine r_top (y := bI (hd k || hd2 k)) (by simp [bI, c7, c21, c30]) ?_
            refine r_zast (j := k) (x := (hd k || hd2 k)) (f' := fun k => bI ((va_up (uni hd hd2 k) k (hd k || hd2 k)) k)) hx hb hK.1 hP hD hS 1 1 rfl rfl (by omega) (by first | decide | omega) (up_b _ _ _) dX0_addAll_38 (fun H locs hP hD hS => ?_)
            have hP : va_P D vwCl (wH ct h (va_up (uni hd hd2 k) k (hd k || hd2 k)) nl wi ++ wT ct a n dc pa va dl ge su ++ wH ct g hd2 nl2 wi2) H := hP
            have hD : va_D A (wH ct h (va_up (uni hd hd2 k) k (hd k || hd2 k)) nl wi ++ wT ct a n dc pa va dl ge su ++ wH ct g hd2 nl2 wi2) := hD
            refine lv_iinc (v := nI (k + 1)) (lv' := [(3, .int (nI (k + 1))), (0, .ref (h 0)), (1, .ref (a 0)), (2, .ref (g 0))]) hx hb dX0_addAll_39 hl (k := 0) rfl (nI_1 _) (by decide) rfl (fun ls hl => ?_)
            refine lv_goto (tgt := 2) hx hb dX0_addAll_42 (by decide) ?_
            have e9 : va_up (uni hd hd2 k) k (hd k || hd2 k) = uni hd hd2 (k + 1) := uni_s _ _ _
            rw [e9] at hP hD
            have hP : va_P D vwCl (wH ct h (uni hd hd2 (k + 1)) nl wi ++ wT ct a n dc pa va dl ge su ++ wH ct g hd2 nl2 wi2) H := hP
            have hD : va_D A (wH ct h (uni hd hd2 (k + 1)) nl wi ++ wT ct a n dc pa va dl ge su ++ wH ct g hd2 nl2 wi2) := hD
            exact ih2 (k + 1) (by first | assumption | omega) (by omega) H locs ls hP hD hS (lv_sub hl [0, 1, 2, 3] rfl)
          · refine lv_iconst (v := nI 1) hx hb dX0_addAll_33 (by decide) ?_
            refine lv_goto (tgt := 38) hx hb dX0_addAll_34 (by decide) ?_
            refine r_top (y := bI (hd k || hd2 k)) (by simp [bI, c7, c21, c30]) ?_
            refine r_zast (j := k) (x := (hd k || hd2 k)) (f' := fun k => bI ((va_up (uni hd hd2 k) k (hd k || hd2 k)) k)) hx hb hK.1 hP hD hS 1 1 rfl rfl (by omega) (by first | decide | omega) (up_b _ _ _) dX0_addAll_38 (fun H locs hP hD hS => ?_)
            have hP : va_P D vwCl (wH ct h (va_up (uni hd hd2 k) k (hd k || hd2 k)) nl wi ++ wT ct a n dc pa va dl ge su ++ wH ct g hd2 nl2 wi2) H := hP
            have hD : va_D A (wH ct h (va_up (uni hd hd2 k) k (hd k || hd2 k)) nl wi ++ wT ct a n dc pa va dl ge su ++ wH ct g hd2 nl2 wi2) := hD
            refine lv_iinc (v := nI (k + 1)) (lv' := [(3, .int (nI (k + 1))), (0, .ref (h 0)), (1, .ref (a 0)), (2, .ref (g 0))]) hx hb dX0_addAll_39 hl (k := 0) rfl (nI_1 _) (by decide) rfl (fun ls hl => ?_)
            refine lv_goto (tgt := 2) hx hb dX0_addAll_42 (by decide) ?_
            have e9 : va_up (uni hd hd2 k) k (hd k || hd2 k) = uni hd hd2 (k + 1) := uni_s _ _ _
            rw [e9] at hP hD
            have hP : va_P D vwCl (wH ct h (uni hd hd2 (k + 1)) nl wi ++ wT ct a n dc pa va dl ge su ++ wH ct g hd2 nl2 wi2) H := hP
            have hD : va_D A (wH ct h (uni hd hd2 (k + 1)) nl wi ++ wT ct a n dc pa va dl ge su ++ wH ct g hd2 nl2 wi2) := hD
            exact ih2 (k + 1) (by first | assumption | omega) (by omega) H locs ls hP hD hS (lv_sub hl [0, 1, 2, 3] rfl)
  have e9 : hd = uni hd hd2 0 := uni_0 _ _
  rw [e9] at hP hD
  have hP : va_P D vwCl (wH ct h (uni hd hd2 0) nl wi ++ wT ct a n dc pa va dl ge su ++ wH ct g hd2 nl2 wi2) s.heap := hP
  have hD : va_D A (wH ct h (uni hd hd2 0) nl wi ++ wT ct a n dc pa va dl ge su ++ wH ct g hd2 nl2 wi2) := hD
  exact key2 ((n - 0) + 1) 0 (by first | assumption | omega) (Nat.lt_succ_self _) _ _ ls hP hD hS (lv_sub hl [0, 1, 2, 3] rfl)
set_option maxHeartbeats 8000000 in
set_option maxRecDepth 100000 in
theorem cX0_addLine_ok (l : Launch) (D : va_G) (ct : Nat → ClassId) (h : Nat → Nat) (hd : Nat → Bool) (nl : Nat → Nat) (wi : Nat → Option Nat) (a : Nat → Nat) (n : Nat) (dc : Nat → Nat) (pa : Nat → Option Nat) (va : Nat → Int32) (dl : Nat → Bool) (ge : Nat → Nat) (su : Nat → Int32) (g : Nat → Nat) (hd2 : Nat → Bool) (nl2 : Nat → Nat) (wi2 : Nat → Option Nat) (k : Nat) (hn : n ≤ 150) (hTp : ∀ k j, k < n → pa k = some j → j < k) (hk : k < n) (sz : Nat) : Met l yX0_addLine wsX0_addLine ({ frames := 0, cells := 0, slots := 0, locals := 0 } : Room) (wrPc D ct [.ref (h 0), .ref (a 0), .ref (g 0), .int (nI k)] (wH ct h hd nl wi ++ wT ct a n dc pa va dl ge su ++ wH ct g hd2 nl2 wi2) sz) (wqI D (nI ((ln pa hd2 150 (some k) 0 hd).1)) (wH ct h ((ln pa hd2 150 (some k) 0 hd).2) nl wi ++ wT ct a n dc pa va dl ge su ++ wH ct g hd2 nl2 wi2) (va_A (wH ct h hd nl wi ++ wT ct a n dc pa va dl ge su ++ wH ct g hd2 nl2 wi2) sz)) 0 0 (va_A (wH ct h hd nl wi ++ wT ct a n dc pa va dl ge su ++ wH ct g hd2 nl2 wi2) sz) := by
  refine Met.ofW (cc := cX0_addLine) (maxL := 7) (ret := (some .int)) (by decide) rfl ?_
  intro p e s m args below meth c s₁ B hml hv
  obtain ⟨rfl, hsz, hP, hK, hD0⟩ := hv
  have hx := B.exec
  have hb := B.bytes
  have hr := B.returns
  have hts := atoms_spec (ws := wsX0_addLine) B.pre
  have hown : s.vm.findClass RX0 = some m.cls := findClass_of_methodNamed B.named
  have hlocks := B.notSynchronized
  subst hsz
  have hD := hD0.self (sz := s.heap.size)
  generalize hAe : va_A (wH ct h hd nl wi ++ wT ct a n dc pa va dl ge su ++ wH ct g hd2 nl2 wi2) s.heap.size = A at hD ⊢
  have hA : ∀ q : Nat, s.heap.size ≤ q → A q := fun q h => by rw [← hAe]; exact Or.inr h
  have hS : va_S A s.heap s.heap [] := va_S.rf
  have hP : va_P D vwCl (wH ct h hd nl wi ++ wT ct a n dc pa va dl ge su ++ wH ct g hd2 nl2 wi2) s.heap := hP
  clear hAe hD0
  have hl := lv_entry ([.ref (h 0), .ref (a 0), .ref (g 0), .int (nI k)]) (n := 7) (Nat.le_of_ble_eq_true rfl)
  rw [lg_entry_eq]
  generalize (lg_sl ([.ref (h 0), .ref (a 0), .ref (g 0), .int (nI k)]) ++ List.replicate (7 - (lg_sl ([.ref (h 0), .ref (a 0), .ref (g 0), .int (nI k)])).length) Slot.unset).toArray = ls at hl ⊢
  have hl : lv_has ls 7 [(0, .ref (h 0)), (1, .ref (a 0)), (2, .ref (g 0)), (3, .int (nI k))] := hl
  have hH0 : s.heap.size ≤ s.heap.size := Nat.le_refl _
  refine lv_iconst (v := nI 0) hx hb dX0_addLine_0 (by decide) ?_
  refine lv_istore (lv' := [(4, .int (nI 0)), (0, .ref (h 0)), (1, .ref (a 0)), (2, .ref (g 0)), (3, .int (nI k))]) hx hb dX0_addLine_1 hl (by decide) rfl (fun ls hl => ?_)
  refine lv_iload_n hx hb dX0_addLine_3 rfl (lv_at hl 4 rfl) ?_
  refine lv_istore (lv' := [(5, .int (nI k)), (4, .int (nI 0)), (0, .ref (h 0)), (1, .ref (a 0)), (2, .ref (g 0)), (3, .int (nI k))]) hx hb dX0_addLine_4 hl (by decide) rfl (fun ls hl => ?_)
  refine lv_iconst (v := nI 0) hx hb dX0_addLine_6 (by decide) ?_
  refine lv_istore (lv' := [(6, .int (nI 0)), (5, .int (nI k)), (4, .int (nI 0)), (0, .ref (h 0)), (1, .ref (a 0)), (2, .ref (g 0)), (3, .int (nI k))]) hx hb dX0_addLine_7 hl (by decide) rfl (fun ls hl => ?_)
  have key9 : ∀ (d9 : Nat) (i : Nat) (o : Option Nat) (c : Nat) (x : Nat → Bool) (hi : i ≤ 150) (ho : ∀ j, o = some j → j < n) (hq : ln pa hd2 (150 - i) o c x = ln pa hd2 150 (some k) 0 hd), 150 - i < d9 → ∀ (H : Heap) (locs : List Loc) (ls : Array Slot), va_P D vwCl (wH ct h x nl wi ++ wT ct a n dc pa va dl ge su ++ wH ct g hd2 nl2 wi2) H → va_D A (wH ct h x nl wi ++ wT ct a n dc pa va dl ge su ++ wH ct g hd2 nl2 wi2) → va_S A s.heap H locs → lv_has ls 7 [(6, .int (nI i)), (5, .int (eP o)), (4, .int (nI c)), (0, .ref (h 0)), (1, .ref (a 0)), (2, .ref (g 0)), (3, .int (nI k))] → W p l e ({ frames := 0, cells := 0, slots := 0, locals := 0 } : Room) s m ([.ref (h 0), .ref (a 0), .ref (g 0), .int (nI k)] : List Value).toArray below meth c H locs 0 0 (MQ below (wqI D (nI ((ln pa hd2 150 (some k) 0 hd).1)) (wH ct h ((ln pa hd2 150 (some k) 0 hd).2) nl wi ++ wT ct a n dc pa va dl ge su ++ wH ct g hd2 nl2 wi2) A) ([.ref (h 0), .ref (a 0), .ref (g 0), .int (nI k)] : List Value).toArray s 0 0 A) (F0 m 9 ls []) := by
    intro d9
    induction d9 with
    | zero => intro i o c x hi ho hq h9; exact absurd h9 (Nat.not_lt_zero _)
    | succ d9 ih9 =>
      intro i o c x hi ho hq hm9 H locs ls hP hD hS hl
      refine lv_iload hx hb dX0_addLine_9 (lv_at hl 0 rfl) ?_
      refine lv_sipush (v := nI 150) hx hb dX0_addLine_11 (by decide) ?_
      refine r_icmp_geN hx hb (x := i) (y := 150) (by first | omega | decide) (by first | omega | decide) (tgt := 69) dX0_addLine_14 (by decide) (fun c14 => ?_) (fun c14 => ?_)
      · refine lv_iload hx hb dX0_addLine_69 (lv_at hl 2 rfl) ?_
        refine r_top (y := nI ((ln pa hd2 150 (some k) 0 hd).1)) (by rw [← hq]; first | (rw [show 150 - i = 0 by omega]; rfl) | (rw [c20, ln_none])) ?_
        have e9 : x = (ln pa hd2 150 (some k) 0 hd).2 := by rw [← hq]; first | (rw [show 150 - i = 0 by omega]; rfl) | (rw [c20, ln_none])
        rw [e9] at hP
        have hP : va_P D vwCl (wH ct h ((ln pa hd2 150 (some k) 0 hd).2) nl wi ++ wT ct a n dc pa va dl ge su ++ wH ct g hd2 nl2 wi2) H := hP
        exact W.iret hx hb hr (fun t ht hW => ⟨⟨_, (), rfl, rfl, by rw [ht]; exact hP⟩, hS.F ht⟩) hS.2.2 dX0_addLine_71
      · refine lv_iload hx hb dX0_addLine_17 (lv_at hl 1 rfl) ?_
        refine lv_iconst (v := -1) hx hb dX0_addLine_19 (by decide) ?_
        refine r_icmp_eqP hx hb (x := o) (by intro j9 h9; have := ho _ h9; omega) (tgt := 69) dX0_addLine_20 (by decide) (fun c20 => ?_) (fun j20 c20 => ?_)
        · have hl := lv_re (f := fun z9 => [(6, .int (nI i)), (5, .int z9), (4, .int (nI c)), (0, .ref (h 0)), (1, .ref (a 0)), (2, .ref (g 0)), (3, .int (nI k))]) hl (show eP o = eP none from congrArg eP c20)
          refine lv_iload hx hb dX0_addLine_69 (lv_at hl 2 rfl) ?_
          refine r_top (y := nI ((ln pa hd2 150 (some k) 0 hd).1)) (by rw [← hq]; first | (rw [show 150 - i = 0 by omega]; rfl) | (rw [c20, ln_none])) ?_
          have e9 : x = (ln pa hd2 150 (some k) 0 hd).2 := by rw [← hq]; first | (rw [show 150 - i = 0 by omega]; rfl) | (rw [c20, ln_none])
          rw [e9] at hP
          have hP : va_P D vwCl (wH ct h ((ln pa hd2 150 (some k) 0 hd).2) nl wi ++ wT ct a n dc pa va dl ge su ++ wH ct g hd2 nl2 wi2) H := hP
          exact W.iret hx hb hr (fun t ht hW => ⟨⟨_, (), rfl, rfl, by rw [ht]; exact hP⟩, hS.F ht⟩) hS.2.2 dX0_addLine_71
        · have hl := lv_re (f := fun z9 => [(6, .int (nI i)), (5, .int z9), (4, .int (nI c)), (0, .ref (h 0)), (1, .ref (a 0)), (2, .ref (g 0)), (3, .int (nI k))]) hl (show eP o = nI j20 from congrArg eP c20)
          have e23 := ho _ c20
          refine lv_aload_n hx hb dX0_addLine_23 rfl (lv_at hl 5 rfl) ?_
          refine va_get (D := D) (ci := 0) (v := .ref (g 1)) (C := RX0) (T := TX0) (N := 3) hx hb hts (fun _ h => List.mem_cons_of_mem _ (List.mem_append_left _ (List.mem_append_right _ h))) hown hK.1 hP 11 rfl rfl 0 (by decide) (hts (.fieldLink RX0 9 "RevisionStores$Holding" "held" "[Z") (List.mem_of_getElem? (i := 1) rfl)) (fun _ h9 => h9) rfl dX0_addLine_24 ?_
          refine lv_iload hx hb dX0_addLine_27 (lv_at hl 1 rfl) ?_
          refine r_zald (j := j20) (v := bI (hd2 j20)) hx hb hK.1 hP 12 1 rfl rfl (by omega) (by first | decide | omega) rfl dX0_addLine_29 ?_
          refine r_if_eqB (x := hd2 j20) (tgt := 54) hx hb dX0_addLine_30 (by decide) (fun c30 => ?_) (fun c30 => ?_)
          · refine lv_aload_n hx hb dX0_addLine_54 rfl (lv_at hl 4 rfl) ?_
            refine va_getN (D := D) (ci := 2) (v := .ref (a 2)) (C := RX2) (T := TX2) (N := 7) hx hb hts (fun _ h => List.mem_cons_of_mem _ (List.mem_append_right _ h)) hown hK.1 hP 4 rfl rfl 1 (by decide) (va_Nw.use rfl (hK.2 _ (List.mem_of_getElem? (i := 17) rfl))) (fun _ h9 => h9) rfl dX0_addLine_55 ?_
            refine lv_iload hx hb dX0_addLine_58 (lv_at hl 1 rfl) ?_
            refine r_iald (j := j20) (v := eP (pa j20)) hx hb hK.1 hP 6 0 rfl rfl (by omega) (by first | decide | omega) rfl dX0_addLine_60 ?_
            refine lv_istore (lv' := [(5, .int (eP (pa j20))), (6, .int (nI i)), (4, .int (nI c)), (0, .ref (h 0)), (1, .ref (a 0)), (2, .ref (g 0)), (3, .int (nI k))]) hx hb dX0_addLine_61 hl (by decide) rfl (fun ls hl => ?_)
            refine lv_iinc (v := nI (i + 1)) (lv' := [(6, .int (nI (i + 1))), (5, .int (eP (pa j20))), (4, .int (nI c)), (0, .ref (h 0)), (1, .ref (a 0)), (2, .ref (g 0)), (3, .int (nI k))]) hx hb dX0_addLine_63 hl (k := 1) rfl (nI_1 _) (by decide) rfl (fun ls hl => ?_)
            refine lv_goto (tgt := 9) hx hb dX0_addLine_66 (by decide) ?_
            exact ih9 (i + 1) (pa j20) c x (by first | assumption | omega) (by intro j9 h9; have := hTp _ _ e23 h9; omega) (by rw [c20] at hq; rw [← hq]; first | exact (ln_t (by omega) c30 c40).symm | exact (ln_f (by omega) (by simp [c14, c20, c30])).symm) (by omega) H locs ls hP hD hS (lv_sub hl [0, 1, 2, 3, 4, 5, 6] rfl)
          · refine lv_aload_n hx hb dX0_addLine_33 rfl (lv_at hl 3 rfl) ?_
            refine va_get (D := D) (ci := 0) (v := .ref (h 1)) (C := RX0) (T := TX0) (N := 3) hx hb hts (fun _ h => List.mem_cons_of_mem _ (List.mem_append_left _ (List.mem_append_right _ h))) hown hK.1 hP 0 rfl rfl 0 (by decide) (hts (.fieldLink RX0 9 "RevisionStores$Holding" "held" "[Z") (List.mem_of_getElem? (i := 1) rfl)) (fun _ h9 => h9) rfl dX0_addLine_34 ?_
            refine lv_iload hx hb dX0_addLine_37 (lv_at hl 1 rfl) ?_
            refine r_zald (j := j20) (v := bI (x j20)) hx hb hK.1 hP 1 1 rfl rfl (by omega) (by first | decide | omega) rfl dX0_addLine_39 ?_
            refine r_if_neB (x := x j20) (tgt := 54) hx hb dX0_addLine_40 (by decide) (fun c40 => ?_) (fun c40 => ?_)
            · refine lv_aload_n hx hb dX0_addLine_54 rfl (lv_at hl 4 rfl) ?_
              refine va_getN (D := D) (ci := 2) (v := .ref (a 2)) (C := RX2) (T := TX2) (N := 7) hx hb hts (fun _ h => List.mem_cons_of_mem _ (List.mem_append_right _ h)) hown hK.1 hP 4 rfl rfl 1 (by decide) (va_Nw.use rfl (hK.2 _ (List.mem_of_getElem? (i := 17) rfl))) (fun _ h9 => h9) rfl dX0_addLine_55 ?_
              refine lv_iload hx hb dX0_addLine_58 (lv_at hl 1 rfl) ?_
              refine r_iald (j := j20) (v := eP (pa j20)) hx hb hK.1 hP 6 0 rfl rfl (by omega) (by first | decide | omega) rfl dX0_addLine_60 ?_
              refine lv_istore (lv' := [(5, .int (eP (pa j20))), (6, .int (nI i)), (4, .int (nI c)), (0, .ref (h 0)), (1, .ref (a 0)), (2, .ref (g 0)), (3, .int (nI k))]) hx hb dX0_addLine_61 hl (by decide) rfl (fun ls hl => ?_)
              refine lv_iinc (v := nI (i + 1)) (lv' := [(6, .int (nI (i + 1))), (5, .int (eP (pa j20))), (4, .int (nI c)), (0, .ref (h 0)), (1, .ref (a 0)), (2, .ref (g 0)), (3, .int (nI k))]) hx hb dX0_addLine_63 hl (k := 1) rfl (nI_1 _) (by decide) rfl (fun ls hl => ?_)
              refine lv_goto (tgt := 9) hx hb dX0_addLine_66 (by decide) ?_
              exact ih9 (i + 1) (pa j20) c x (by first | assumption | omega) (by intro j9 h9; have := hTp _ _ e23 h9; omega) (by rw [c20] at hq; rw [← hq]; first | exact (ln_t (by omega) c30 c40).symm | exact (ln_f (by omega) (by simp [c14, c20, c30, c40])).symm) (by omega) H locs ls hP hD hS (lv_sub hl [0, 1, 2, 3, 4, 5, 6] rfl)
            · refine lv_aload_n hx hb dX0_addLine_43 rfl (lv_at hl 3 rfl) ?_
              refine va_get (D := D) (ci := 0) (v := .ref (h 1)) (C := RX0) (T := TX0) (N := 3) hx hb hts (fun _ h => List.mem_cons_of_mem _ (List.mem_append_left _ (List.mem_append_right _ h))) hown hK.1 hP 0 rfl rfl 0 (by decide) (hts (.fieldLink RX0 9 "RevisionStores$Holding" "held" "[Z") (List.mem_of_getElem? (i := 1) rfl)) (fun _ h9 => h9) rfl dX0_addLine_44 ?_
              refine lv_iload hx hb dX0_addLine_47 (lv_at hl 1 rfl) ?_
              refine lv_iconst (v := nI 1) hx hb dX0_addLine_49 (by decide) ?_
              refine r_zast (j := j20) (x := true) (f' := fun k => bI ((va_up x j20 true) k)) hx hb hK.1 hP hD hS 1 1 rfl rfl (by omega) (by first | decide | omega) (up_b _ _ _) dX0_addLine_50 (fun H locs hP hD hS => ?_)
              have hP : va_P D vwCl (wH ct h (va_up x j20 true) nl wi ++ wT ct a n dc pa va dl ge su ++ wH ct g hd2 nl2 wi2) H := hP
              have hD : va_D A (wH ct h (va_up x j20 true) nl wi ++ wT ct a n dc pa va dl ge su ++ wH ct g hd2 nl2 wi2) := hD
              refine lv_iinc (v := nI (c + 1)) (lv' := [(4, .int (nI (c + 1))), (6, .int (nI i)), (5, .int (nI j20)), (0, .ref (h 0)), (1, .ref (a 0)), (2, .ref (g 0)), (3, .int (nI k))]) hx hb dX0_addLine_51 hl (k := 2) rfl (nI_1 _) (by decide) rfl (fun ls hl => ?_)
              refine lv_aload_n hx hb dX0_addLine_54 rfl (lv_at hl 4 rfl) ?_
              refine va_getN (D := D) (ci := 2) (v := .ref (a 2)) (C := RX2) (T := TX2) (N := 7) hx hb hts (fun _ h => List.mem_cons_of_mem _ (List.mem_append_right _ h)) hown hK.1 hP 4 rfl rfl 1 (by decide) (va_Nw.use rfl (hK.2 _ (List.mem_of_getElem? (i := 17) rfl))) (fun _ h9 => h9) rfl dX0_addLine_55 ?_
              refine lv_iload hx hb dX0_addLine_58 (lv_at hl 2 rfl) ?_
              refine r_iald (j := j20) (v := eP (pa j20)) hx hb hK.1 hP 6 0 rfl rfl (by omega) (by first | decide | omega) rfl dX0_addLine_60 ?_
              refine lv_istore (lv' := [(5, .int (eP (pa j20))), (4, .int (nI (c + 1))), (6, .int (nI i)), (0, .ref (h 0)), (1, .ref (a 0)), (2, .ref (g 0)), (3, .int (nI k))]) hx hb dX0_addLine_61 hl (by decide) rfl (fun ls hl => ?_)
              refine lv_iinc (v := nI (i + 1)) (lv' := [(6, .int (nI (i + 1))), (5, .int (eP (pa j20))), (4, .int (nI (c + 1))), (0, .ref (h 0)), (1, .ref (a 0)), (2, .ref (g 0)), (3, .int (nI k))]) hx hb dX0_addLine_63 hl (k := 2) rfl (nI_1 _) (by decide) rfl (fun ls hl => ?_)
              refine lv_goto (tgt := 9) hx hb dX0_addLine_66 (by decide) ?_
              have hP : va_P D vwCl (wH ct h (va_up x j20 true) nl wi ++ wT ct a n dc pa va dl ge su ++ wH ct g hd2 nl2 wi2) H := hP
              have hD : va_D A (wH ct h (va_up x j20 true) nl wi ++ wT ct a n dc pa va dl ge su ++ wH ct g hd2 nl2 wi2) := hD
              exact ih9 (i + 1) (pa j20) (c + 1) (va_up x j20 true) (by first | assumption | omega) (by intro j9 h9; have := hTp _ _ e23 h9; omega) (by rw [c20] at hq; rw [← hq]; first | exact (ln_t (by omega) c30 c40).symm | exact (ln_f (by omega) (by simp [c14, c20, c30, c40])).symm) (by omega) H locs ls hP hD hS (lv_sub hl [0, 1, 2, 3, 4, 5, 6] rfl)
  exact key9 ((150 - 0) + 1) 0 (some k) 0 hd (by first | assumption | omega) (by intro j9 h9; cases h9; exact hk) (rfl) (Nat.lt_succ_self _) _ _ ls hP hD hS (lv_sub hl [0, 1, 2, 3, 4, 5, 6] rfl)
set_option maxHeartbeats 8000000 in
set_option maxRecDepth 100000 in
theorem cX0_addBranches_ok (l : Launch) (D : va_G) (ct : Nat → ClassId) (h : Nat → Nat) (hd : Nat → Bool) (nl : Nat → Nat) (wi : Nat → Option Nat) (a : Nat → Nat) (n : Nat) (dc : Nat → Nat) (pa : Nat → Option Nat) (va : Nat → Int32) (dl : Nat → Bool) (ge : Nat → Nat) (su : Nat → Int32) (g : Nat → Nat) (hd2 : Nat → Bool) (nl2 : Nat → Nat) (wi2 : Nat → Option Nat) (d : Nat) (hn : n ≤ 150) (hTd : ∀ k, dc k < 4) (hTp : ∀ k j, k < n → pa k = some j → j < k) (hNl : ∀ k, nl k ≤ 151) (hNl2 : ∀ k, nl2 k ≤ 151) (hd4 : d < 4) (sz : Nat) : Met l yX0_addBranches wsX0_addBranches ({ frames := 2, cells := 0, slots := 0, locals := 42 } : Room) (wrPc D ct [.ref (h 0), .ref (a 0), .ref (g 0), .int (nI d)] (wH ct h hd nl wi ++ wT ct a n dc pa va dl ge su ++ wH ct g hd2 nl2 wi2) sz) (wqI D (nI ((abS dc pa hd2 (ends hd2 nl2) nl d hd n).1)) (wH ct h ((abS dc pa hd2 (ends hd2 nl2) nl d hd n).2) nl wi ++ wT ct a n dc pa va dl ge su ++ wH ct g hd2 nl2 wi2) (va_A (wH ct h hd nl wi ++ wT ct a n dc pa va dl ge su ++ wH ct g hd2 nl2 wi2) sz)) 0 0 (va_A (wH ct h hd nl wi ++ wT ct a n dc pa va dl ge su ++ wH ct g hd2 nl2 wi2) sz) := by
  refine Met.ofW (cc := cX0_addBranches) (maxL := 6) (ret := (some .int)) (by decide) rfl ?_
  intro p e s m args below meth c s₁ B hml hv
  obtain ⟨rfl, hsz, hP, hK, hD0⟩ := hv
  have hx := B.exec
  have hb := B.bytes
  have hr := B.returns
  have hts := atoms_spec (ws := wsX0_addBranches) B.pre
  have hown : s.vm.findClass RX0 = some m.cls := findClass_of_methodNamed B.named
  have hlocks := B.notSynchronized
  subst hsz
  have hD := hD0.self (sz := s.heap.size)
  generalize hAe : va_A (wH ct h hd nl wi ++ wT ct a n dc pa va dl ge su ++ wH ct g hd2 nl2 wi2) s.heap.size = A at hD ⊢
  have hA : ∀ q : Nat, s.heap.size ≤ q → A q := fun q h => by rw [← hAe]; exact Or.inr h
  have hS : va_S A s.heap s.heap [] := va_S.rf
  have hP : va_P D vwCl (wH ct h hd nl wi ++ wT ct a n dc pa va dl ge su ++ wH ct g hd2 nl2 wi2) s.heap := hP
  clear hAe hD0
  have hl := lv_entry ([.ref (h 0), .ref (a 0), .ref (g 0), .int (nI d)]) (n := 6) (Nat.le_of_ble_eq_true rfl)
  rw [lg_entry_eq]
  generalize (lg_sl ([.ref (h 0), .ref (a 0), .ref (g 0), .int (nI d)]) ++ List.replicate (6 - (lg_sl ([.ref (h 0), .ref (a 0), .ref (g 0), .int (nI d)])).length) Slot.unset).toArray = ls at hl ⊢
  have hl : lv_has ls 6 [(0, .ref (h 0)), (1, .ref (a 0)), (2, .ref (g 0)), (3, .int (nI d))] := hl
  have hH0 : s.heap.size ≤ s.heap.size := Nat.le_refl _
  refine lv_iconst (v := nI 0) hx hb dX0_addBranches_0 (by decide) ?_
  refine lv_istore (lv' := [(4, .int (nI 0)), (0, .ref (h 0)), (1, .ref (a 0)), (2, .ref (g 0)), (3, .int (nI d))]) hx hb dX0_addBranches_1 hl (by decide) rfl (fun ls hl => ?_)
  refine lv_iconst (v := nI 0) hx hb dX0_addBranches_3 (by decide) ?_
  refine lv_istore (lv' := [(5, .int (nI 0)), (4, .int (nI 0)), (0, .ref (h 0)), (1, .ref (a 0)), (2, .ref (g 0)), (3, .int (nI d))]) hx hb dX0_addBranches_4 hl (by decide) rfl (fun ls hl => ?_)
  have key6 : ∀ (d6 : Nat) (k : Nat) (hk : k ≤ n), n - k < d6 → ∀ (H : Heap) (locs : List Loc) (ls : Array Slot), va_P D vwCl (wH ct h ((abS dc pa hd2 (ends hd2 nl2) nl d hd k).2) nl wi ++ wT ct a n dc pa va dl ge su ++ wH ct g hd2 nl2 wi2) H → va_D A (wH ct h ((abS dc pa hd2 (ends hd2 nl2) nl d hd k).2) nl wi ++ wT ct a n dc pa va dl ge su ++ wH ct g hd2 nl2 wi2) → va_S A s.heap H locs → lv_has ls 6 [(5, .int (nI k)), (4, .int (nI ((abS dc pa hd2 (ends hd2 nl2) nl d hd k).1))), (0, .ref (h 0)), (1, .ref (a 0)), (2, .ref (g 0)), (3, .int (nI d))] → W p l e ({ frames := 2, cells := 0, slots := 0, locals := 42 } : Room) s m ([.ref (h 0), .ref (a 0), .ref (g 0), .int (nI d)] : List Value).toArray below meth c H locs 0 0 (MQ below (wqI D (nI ((abS dc pa hd2 (ends hd2 nl2) nl d hd n).1)) (wH ct h ((abS dc pa hd2 (ends hd2 nl2) nl d hd n).2) nl wi ++ wT ct a n dc pa va dl ge su ++ wH ct g hd2 nl2 wi2) A) ([.ref (h 0), .ref (a 0), .ref (g 0), .int (nI d)] : List Value).toArray s 0 0 A) (F0 m 6 ls []) := by
    intro d6
    induction d6 with
    | zero => intro k hk h9; exact absurd h9 (Nat.not_lt_zero _)
    | succ d6 ih6 =>
      intro k hk hm6 H locs ls hP hD hS hl
      refine lv_iload hx hb dX0_addBranches_6 (lv_at hl 0 rfl) ?_
      refine lv_aload_n hx hb dX0_addBranches_8 rfl (lv_at hl 3 rfl) ?_
      refine va_getN (D := D) (ci := 2) (v := .int (nI n)) (C := RX2) (T := TX2) (N := 7) hx hb hts (fun _ h => List.mem_cons_of_mem _ (List.mem_append_left _ (List.mem_append_right _ h))) hown hK.1 hP 4 rfl rfl 6 (by decide) (va_Nw.use rfl (hK.2 _ (List.mem_of_getElem? (i := 16) rfl))) (fun _ h9 => h9) rfl dX0_addBranches_9 ?_
      refine r_icmp_geN hx hb (x := k) (y := n) (by first | omega | decide) (by first | omega | decide) (tgt := 73) dX0_addBranches_12 (by decide) (fun c12 => ?_) (fun c12 => ?_)
      · refine lv_iload hx hb dX0_addBranches_73 (lv_at hl 1 rfl) ?_
        refine r_top (y := nI ((abS dc pa hd2 (ends hd2 nl2) nl d hd n).1)) (by rw [show k = n by omega]) ?_
        have e9 : (abS dc pa hd2 (ends hd2 nl2) nl d hd k).2 = (abS dc pa hd2 (ends hd2 nl2) nl d hd n).2 := by rw [show k = n by omega]
        rw [e9] at hP
        have hP : va_P D vwCl (wH ct h ((abS dc pa hd2 (ends hd2 nl2) nl d hd n).2) nl wi ++ wT ct a n dc pa va dl ge su ++ wH ct g hd2 nl2 wi2) H := hP
        exact W.iret hx hb hr (fun t ht hW => ⟨⟨_, (), rfl, rfl, by rw [ht]; exact hP⟩, hS.F ht⟩) hS.2.2 dX0_addBranches_75
      · refine lv_aload_n hx hb dX0_addBranches_15 rfl (lv_at hl 3 rfl) ?_
        refine va_getN (D := D) (ci := 2) (v := .ref (a 1)) (C := RX2) (T := TX2) (N := 7) hx hb hts (fun _ h => List.mem_cons_of_mem _ (List.mem_append_left _ (List.mem_append_right _ h))) hown hK.1 hP 4 rfl rfl 0 (by decide) (va_Nw.use rfl (hK.2 _ (List.mem_of_getElem? (i := 19) rfl))) (fun _ h9 => h9) rfl dX0_addBranches_16 ?_
        refine lv_iload hx hb dX0_addBranches_19 (lv_at hl 0 rfl) ?_
        refine r_iald (j := k) (v := nI (dc k)) hx hb hK.1 hP 5 0 rfl rfl (by omega) (by first | decide | omega) rfl dX0_addBranches_21 ?_
        have f21 := hTd k
        refine lv_iload_n hx hb dX0_addBranches_22 rfl (lv_at hl 5 rfl) ?_
        refine r_icmp_neN hx hb (x := dc k) (y := d) (by first | omega | decide) (by first | omega | decide) (tgt := 67) dX0_addBranches_23 (by decide) (fun c23 => ?_) (fun c23 => ?_)
        · refine lv_iinc (v := nI (k + 1)) (lv' := [(5, .int (nI (k + 1))), (4, .int (nI ((abS dc pa hd2 (ends hd2 nl2) nl d hd k).1))), (0, .ref (h 0)), (1, .ref (a 0)), (2, .ref (g 0)), (3, .int (nI d))]) hx hb dX0_addBranches_67 hl (k := 0) rfl (nI_1 _) (by decide) rfl (fun ls hl => ?_)
          refine lv_goto (tgt := 6) hx hb dX0_addBranches_70 (by decide) ?_
          have hl := lv_re (f := fun z9 => [(5, .int (nI (k + 1))), (4, .int z9), (0, .ref (h 0)), (1, .ref (a 0)), (2, .ref (g 0)), (3, .int (nI d))]) hl (show nI ((abS dc pa hd2 (ends hd2 nl2) nl d hd k).1) = nI ((abS dc pa hd2 (ends hd2 nl2) nl d hd (k + 1)).1) from by first | exact congrArg (fun z => nI z.1) (abS_f (by simp [abC, c12, c23])).symm | exact congrArg (fun z => nI z.1) (abS_t (by simp [abC, c12, c23])).symm)
          have e9 : (abS dc pa hd2 (ends hd2 nl2) nl d hd k).2 = (abS dc pa hd2 (ends hd2 nl2) nl d hd (k + 1)).2 := by first | exact congrArg Prod.snd (abS_f (by simp [abC, c12, c23])).symm | exact congrArg Prod.snd (abS_t (by simp [abC, c12, c23])).symm
          rw [e9] at hP hD
          have hP : va_P D vwCl (wH ct h ((abS dc pa hd2 (ends hd2 nl2) nl d hd (k + 1)).2) nl wi ++ wT ct a n dc pa va dl ge su ++ wH ct g hd2 nl2 wi2) H := hP
          have hD : va_D A (wH ct h ((abS dc pa hd2 (ends hd2 nl2) nl d hd (k + 1)).2) nl wi ++ wT ct a n dc pa va dl ge su ++ wH ct g hd2 nl2 wi2) := hD
          exact ih6 (k + 1) (by first | assumption | omega) (by omega) H locs ls hP hD hS (lv_sub hl [0, 1, 2, 3, 4, 5] rfl)
        · refine lv_aload_n hx hb dX0_addBranches_26 rfl (lv_at hl 4 rfl) ?_
          refine lv_iload hx hb dX0_addBranches_27 (lv_at hl 0 rfl) ?_
          refine r_cV (As := [.int (nI k)]) (rest := []) ⟨hx, hb, hml, hown, hts⟩ (cX0_endsAt_ok l D ct g hd2 nl2 wi2 k (by first | assumption | omega) (hNl2 _)) (cwV 1 hts gX0_addBranches_X0_endsAt rfl rfl rfl (by decide +kernel) ⟨Nat.le_of_ble_eq_true rfl, Nat.le_of_ble_eq_true rfl⟩) hK (hP.sub (ws' := wH ct g hd2 nl2 wi2) [11, 12, 13, 14] rfl) 0 0 rfl rfl rfl hl.1 rfl (Nat.le_of_ble_eq_true rfl) dX0_addBranches_29 ⟨Nat.le_of_ble_eq_true rfl, Nat.le_of_ble_eq_true rfl⟩ ?_
          refine r_if_eqB (x := ends hd2 nl2 k) (tgt := 67) hx hb dX0_addBranches_32 (by decide) (fun c32 => ?_) (fun c32 => ?_)
          · refine lv_iinc (v := nI (k + 1)) (lv' := [(5, .int (nI (k + 1))), (4, .int (nI ((abS dc pa hd2 (ends hd2 nl2) nl d hd k).1))), (0, .ref (h 0)), (1, .ref (a 0)), (2, .ref (g 0)), (3, .int (nI d))]) hx hb dX0_addBranches_67 hl (k := 0) rfl (nI_1 _) (by decide) rfl (fun ls hl => ?_)
            refine lv_goto (tgt := 6) hx hb dX0_addBranches_70 (by decide) ?_
            have hl := lv_re (f := fun z9 => [(5, .int (nI (k + 1))), (4, .int z9), (0, .ref (h 0)), (1, .ref (a 0)), (2, .ref (g 0)), (3, .int (nI d))]) hl (show nI ((abS dc pa hd2 (ends hd2 nl2) nl d hd k).1) = nI ((abS dc pa hd2 (ends hd2 nl2) nl d hd (k + 1)).1) from by first | exact congrArg (fun z => nI z.1) (abS_f (by simp [abC, c12, c23, c32])).symm | exact congrArg (fun z => nI z.1) (abS_t (by simp [abC, c12, c23, c32])).symm)
            have e9 : (abS dc pa hd2 (ends hd2 nl2) nl d hd k).2 = (abS dc pa hd2 (ends hd2 nl2) nl d hd (k + 1)).2 := by first | exact congrArg Prod.snd (abS_f (by simp [abC, c12, c23, c32])).symm | exact congrArg Prod.snd (abS_t (by simp [abC, c12, c23, c32])).symm
            rw [e9] at hP hD
            have hP : va_P D vwCl (wH ct h ((abS dc pa hd2 (ends hd2 nl2) nl d hd (k + 1)).2) nl wi ++ wT ct a n dc pa va dl ge su ++ wH ct g hd2 nl2 wi2) H := hP
            have hD : va_D A (wH ct h ((abS dc pa hd2 (ends hd2 nl2) nl d hd (k + 1)).2) nl wi ++ wT ct a n dc pa va dl ge su ++ wH ct g hd2 nl2 wi2) := hD
            exact ih6 (k + 1) (by first | assumption | omega) (by omega) H locs ls hP hD hS (lv_sub hl [0, 1, 2, 3, 4, 5] rfl)
          · refine lv_aload_n hx hb dX0_addBranches_35 rfl (lv_at hl 2 rfl) ?_
            refine va_get (D := D) (ci := 0) (v := .ref (h 1)) (C := RX0) (T := TX0) (N := 3) hx hb hts (fun _ h => List.mem_cons_of_mem _ (List.mem_append_right _ h)) hown hK.1 hP 0 rfl rfl 0 (by decide) (hts (.fieldLink RX0 9 "RevisionStores$Holding" "held" "[Z") (List.mem_of_getElem? (i := 1) rfl)) (fun _ h9 => h9) rfl dX0_addBranches_36 ?_
            refine lv_iload hx hb dX0_addBranches_39 (lv_at hl 0 rfl) ?_
            refine r_zald (j := k) (v := bI (((abS dc pa hd2 (ends hd2 nl2) nl d hd k).2) k)) hx hb hK.1 hP 1 1 rfl rfl (by omega) (by first | decide | omega) rfl dX0_addBranches_41 ?_
            refine r_if_neB (x := ((abS dc pa hd2 (ends hd2 nl2) nl d hd k).2) k) (tgt := 67) hx hb dX0_addBranches_42 (by decide) (fun c42 => ?_) (fun c42 => ?_)
            · refine lv_iinc (v := nI (k + 1)) (lv' := [(5, .int (nI (k + 1))), (4, .int (nI ((abS dc pa hd2 (ends hd2 nl2) nl d hd k).1))), (0, .ref (h 0)), (1, .ref (a 0)), (2, .ref (g 0)), (3, .int (nI d))]) hx hb dX0_addBranches_67 hl (k := 0) rfl (nI_1 _) (by decide) rfl (fun ls hl => ?_)
              refine lv_goto (tgt := 6) hx hb dX0_addBranches_70 (by decide) ?_
              have hl := lv_re (f := fun z9 => [(5, .int (nI (k + 1))), (4, .int z9), (0, .ref (h 0)), (1, .ref (a 0)), (2, .ref (g 0)), (3, .int (nI d))]) hl (show nI ((abS dc pa hd2 (ends hd2 nl2) nl d hd k).1) = nI ((abS dc pa hd2 (ends hd2 nl2) nl d hd (k + 1)).1) from by first | exact congrArg (fun z => nI z.1) (abS_f (by simp [abC, c12, c23, c32, c42])).symm | exact congrArg (fun z => nI z.1) (abS_t (by simp [abC, c12, c23, c32, c42])).symm)
              have e9 : (abS dc pa hd2 (ends hd2 nl2) nl d hd k).2 = (abS dc pa hd2 (ends hd2 nl2) nl d hd (k + 1)).2 := by first | exact congrArg Prod.snd (abS_f (by simp [abC, c12, c23, c32, c42])).symm | exact congrArg Prod.snd (abS_t (by simp [abC, c12, c23, c32, c42])).symm
              rw [e9] at hP hD
              have hP : va_P D vwCl (wH ct h ((abS dc pa hd2 (ends hd2 nl2) nl d hd (k + 1)).2) nl wi ++ wT ct a n dc pa va dl ge su ++ wH ct g hd2 nl2 wi2) H := hP
              have hD : va_D A (wH ct h ((abS dc pa hd2 (ends hd2 nl2) nl d hd (k + 1)).2) nl wi ++ wT ct a n dc pa va dl ge su ++ wH ct g hd2 nl2 wi2) := hD
              exact ih6 (k + 1) (by first | assumption | omega) (by omega) H locs ls hP hD hS (lv_sub hl [0, 1, 2, 3, 4, 5] rfl)
            · refine lv_aload_n hx hb dX0_addBranches_45 rfl (lv_at hl 2 rfl) ?_
              refine lv_iload hx hb dX0_addBranches_46 (lv_at hl 0 rfl) ?_
              refine r_cV (As := [.int (nI k)]) (rest := []) ⟨hx, hb, hml, hown, hts⟩ (cX0_hasDescendantOf_ok l D ct h ((abS dc pa hd2 (ends hd2 nl2) nl d hd k).2) nl wi k (by first | assumption | omega) (hNl _)) (cwV 1 hts gX0_addBranches_X0_hasDescendantOf rfl rfl rfl (by decide +kernel) ⟨Nat.le_of_ble_eq_true rfl, Nat.le_of_ble_eq_true rfl⟩) hK (hP.sub (ws' := wH ct h ((abS dc pa hd2 (ends hd2 nl2) nl d hd k).2) nl wi) [0, 1, 2, 3] rfl) 0 0 rfl rfl rfl hl.1 rfl (Nat.le_of_ble_eq_true rfl) dX0_addBranches_48 ⟨Nat.le_of_ble_eq_true rfl, Nat.le_of_ble_eq_true rfl⟩ ?_
              refine r_if_neB (x := hasD nl k) (tgt := 67) hx hb dX0_addBranches_51 (by decide) (fun c51 => ?_) (fun c51 => ?_)
              · refine lv_iinc (v := nI (k + 1)) (lv' := [(5, .int (nI (k + 1))), (4, .int (nI ((abS dc pa hd2 (ends hd2 nl2) nl d hd k).1))), (0, .ref (h 0)), (1, .ref (a 0)), (2, .ref (g 0)), (3, .int (nI d))]) hx hb dX0_addBranches_67 hl (k := 0) rfl (nI_1 _) (by decide) rfl (fun ls hl => ?_)
                refine lv_goto (tgt := 6) hx hb dX0_addBranches_70 (by decide) ?_
                have hl := lv_re (f := fun z9 => [(5, .int (nI (k + 1))), (4, .int z9), (0, .ref (h 0)), (1, .ref (a 0)), (2, .ref (g 0)), (3, .int (nI d))]) hl (show nI ((abS dc pa hd2 (ends hd2 nl2) nl d hd k).1) = nI ((abS dc pa hd2 (ends hd2 nl2) nl d hd (k + 1)).1) from by first | exact congrArg (fun z => nI z.1) (abS_f (by simp [abC, c12, c23, c32, c42, c51])).symm | exact congrArg (fun z => nI z.1) (abS_t (by simp [abC, c12, c23, c32, c42, c51])).symm)
                have e9 : (abS dc pa hd2 (ends hd2 nl2) nl d hd k).2 = (abS dc pa hd2 (ends hd2 nl2) nl d hd (k + 1)).2 := by first | exact congrArg Prod.snd (abS_f (by simp [abC, c12, c23, c32, c42, c51])).symm | exact congrArg Prod.snd (abS_t (by simp [abC, c12, c23, c32, c42, c51])).symm
                rw [e9] at hP hD
                have hP : va_P D vwCl (wH ct h ((abS dc pa hd2 (ends hd2 nl2) nl d hd (k + 1)).2) nl wi ++ wT ct a n dc pa va dl ge su ++ wH ct g hd2 nl2 wi2) H := hP
                have hD : va_D A (wH ct h ((abS dc pa hd2 (ends hd2 nl2) nl d hd (k + 1)).2) nl wi ++ wT ct a n dc pa va dl ge su ++ wH ct g hd2 nl2 wi2) := hD
                exact ih6 (k + 1) (by first | assumption | omega) (by omega) H locs ls hP hD hS (lv_sub hl [0, 1, 2, 3, 4, 5] rfl)
              · refine lv_iload hx hb dX0_addBranches_54 (lv_at hl 1 rfl) ?_
                refine lv_aload_n hx hb dX0_addBranches_56 rfl (lv_at hl 2 rfl) ?_
                refine lv_aload_n hx hb dX0_addBranches_57 rfl (lv_at hl 3 rfl) ?_
                refine lv_aload_n hx hb dX0_addBranches_58 rfl (lv_at hl 4 rfl) ?_
                refine lv_iload hx hb dX0_addBranches_59 (lv_at hl 0 rfl) ?_
                refine r_wVi (As := [.ref (a 0), .ref (g 0), .int (nI k)]) (rest := [.int (nI ((abS dc pa hd2 (ends hd2 nl2) nl d hd k).1))]) ⟨hx, hb, hml, hown, hts⟩ (cX0_addLine_ok l D ct h ((abS dc pa hd2 (ends hd2 nl2) nl d hd k).2) nl wi a n dc pa va dl ge su g hd2 nl2 wi2 k (by first | assumption | omega) (by first | assumption | omega) (by first | assumption | omega) H.size) (cwV 3 hts gX0_addBranches_X0_addLine rfl rfl rfl (by decide +kernel) ⟨Nat.le_of_ble_eq_true rfl, Nat.le_of_ble_eq_true rfl⟩) hK hP hD hS hA [0, 1, 2, 3, 4, 5, 6, 7, 8, 9, 10, 11, 12, 13, 14] rfl rfl rfl 0 0 rfl rfl rfl hl.1 rfl (Nat.le_of_ble_eq_true rfl) dX0_addBranches_61 ⟨Nat.le_of_ble_eq_true rfl, Nat.le_of_ble_eq_true rfl⟩ (fun H locs hP hD hS => ?_)
                have hP : va_P D vwCl (wH ct h ((ln pa hd2 150 (some k) 0 ((abS dc pa hd2 (ends hd2 nl2) nl d hd k).2)).2) nl wi ++ wT ct a n dc pa va dl ge su ++ wH ct g hd2 nl2 wi2) H := hP
                have hD : va_D A (wH ct h ((ln pa hd2 150 (some k) 0 ((abS dc pa hd2 (ends hd2 nl2) nl d hd k).2)).2) nl wi ++ wT ct a n dc pa va dl ge su ++ wH ct g hd2 nl2 wi2) := hD
                refine r_iaddN hx hb dX0_addBranches_64 ?_
                refine lv_istore (lv' := [(4, .int (nI (((abS dc pa hd2 (ends hd2 nl2) nl d hd k).1) + ((ln pa hd2 150 (some k) 0 ((abS dc pa hd2 (ends hd2 nl2) nl d hd k).2)).1)))), (5, .int (nI k)), (0, .ref (h 0)), (1, .ref (a 0)), (2, .ref (g 0)), (3, .int (nI d))]) hx hb dX0_addBranches_65 hl (by decide) rfl (fun ls hl => ?_)
                refine lv_iinc (v := nI (k + 1)) (lv' := [(5, .int (nI (k + 1))), (4, .int (nI (((abS dc pa hd2 (ends hd2 nl2) nl d hd k).1) + ((ln pa hd2 150 (some k) 0 ((abS dc pa hd2 (ends hd2 nl2) nl d hd k).2)).1)))), (0, .ref (h 0)), (1, .ref (a 0)), (2, .ref (g 0)), (3, .int (nI d))]) hx hb dX0_addBranches_67 hl (k := 1) rfl (nI_1 _) (by decide) rfl (fun ls hl => ?_)
                refine lv_goto (tgt := 6) hx hb dX0_addBranches_70 (by decide) ?_
                have hl := lv_re (f := fun z9 => [(5, .int (nI (k + 1))), (4, .int z9), (0, .ref (h 0)), (1, .ref (a 0)), (2, .ref (g 0)), (3, .int (nI d))]) hl (show nI (((abS dc pa hd2 (ends hd2 nl2) nl d hd k).1) + ((ln pa hd2 150 (some k) 0 ((abS dc pa hd2 (ends hd2 nl2) nl d hd k).2)).1)) = nI ((abS dc pa hd2 (ends hd2 nl2) nl d hd (k + 1)).1) from by first | exact congrArg (fun z => nI z.1) (abS_f (by simp [abC, c12, c23, c32, c42, c51])).symm | exact congrArg (fun z => nI z.1) (abS_t (by simp [abC, c12, c23, c32, c42, c51])).symm)
                have e9 : (ln pa hd2 150 (some k) 0 ((abS dc pa hd2 (ends hd2 nl2) nl d hd k).2)).2 = (abS dc pa hd2 (ends hd2 nl2) nl d hd (k + 1)).2 := by first | exact congrArg Prod.snd (abS_f (by simp [abC, c12, c23, c32, c42, c51])).symm | exact congrArg Prod.snd (abS_t (by simp [abC, c12, c23, c32, c42, c51])).symm
                rw [e9] at hP hD
                have hP : va_P D vwCl (wH ct h ((abS dc pa hd2 (ends hd2 nl2) nl d hd (k + 1)).2) nl wi ++ wT ct a n dc pa va dl ge su ++ wH ct g hd2 nl2 wi2) H := hP
                have hD : va_D A (wH ct h ((abS dc pa hd2 (ends hd2 nl2) nl d hd (k + 1)).2) nl wi ++ wT ct a n dc pa va dl ge su ++ wH ct g hd2 nl2 wi2) := hD
                exact ih6 (k + 1) (by first | assumption | omega) (by omega) H locs ls hP hD hS (lv_sub hl [0, 1, 2, 3, 4, 5] rfl)
  have e9 : hd = (abS dc pa hd2 (ends hd2 nl2) nl d hd 0).2 := rfl
  rw [e9] at hP hD
  have hP : va_P D vwCl (wH ct h ((abS dc pa hd2 (ends hd2 nl2) nl d hd 0).2) nl wi ++ wT ct a n dc pa va dl ge su ++ wH ct g hd2 nl2 wi2) s.heap := hP
  have hD : va_D A (wH ct h ((abS dc pa hd2 (ends hd2 nl2) nl d hd 0).2) nl wi ++ wT ct a n dc pa va dl ge su ++ wH ct g hd2 nl2 wi2) := hD
  exact key6 ((n - 0) + 1) 0 (by first | assumption | omega) (Nat.lt_succ_self _) _ _ ls hP hD hS (lv_sub hl [0, 1, 2, 3, 4, 5] rfl)
set_option maxHeartbeats 8000000 in
set_option maxRecDepth 100000 in
theorem cX0_countAll_ok (l : Launch) (D : va_G) (ct : Nat → ClassId) (h : Nat → Nat) (hd : Nat → Bool) (nl : Nat → Nat) (wi : Nat → Option Nat) (a : Nat → Nat) (n : Nat) (dc : Nat → Nat) (pa : Nat → Option Nat) (va : Nat → Int32) (dl : Nat → Bool) (ge : Nat → Nat) (su : Nat → Int32) (hn : n ≤ 150) : Met l yX0_countAll wsX0_countAll ({ frames := 0, cells := 0, slots := 0, locals := 0 } : Room) (roPc D ct [.ref (h 0), .ref (a 0)] (wH ct h hd nl wi ++ wT ct a n dc pa va dl ge su)) (rqI (nI (fct hd n))) 0 0 (fun _ => False) := by
  refine Met.ofW (cc := cX0_countAll) (maxL := 4) (ret := (some .int)) (by decide) rfl ?_
  intro p e s m args below meth c s₁ B hml hv
  obtain ⟨rfl, hP, hK⟩ := hv
  have hx := B.exec
  have hb := B.bytes
  have hr := B.returns
  have hts := atoms_spec (ws := wsX0_countAll) B.pre
  have hown : s.vm.findClass RX0 = some m.cls := findClass_of_methodNamed B.named
  have hlocks := B.notSynchronized
  have hl := lv_entry ([.ref (h 0), .ref (a 0)]) (n := 4) (Nat.le_of_ble_eq_true rfl)
  rw [lg_entry_eq]
  generalize (lg_sl ([.ref (h 0), .ref (a 0)]) ++ List.replicate (4 - (lg_sl ([.ref (h 0), .ref (a 0)])).length) Slot.unset).toArray = ls at hl ⊢
  have hl : lv_has ls 4 [(0, .ref (h 0)), (1, .ref (a 0))] := hl
  refine lv_iconst (v := nI 0) hx hb dX0_countAll_0 (by decide) ?_
  refine lv_istore_n (lv' := [(2, .int (nI 0)), (0, .ref (h 0)), (1, .ref (a 0))]) hx hb dX0_countAll_1 rfl hl (by decide) rfl (fun ls hl => ?_)
  refine lv_iconst (v := nI 0) hx hb dX0_countAll_2 (by decide) ?_
  refine lv_istore_n (lv' := [(3, .int (nI 0)), (2, .int (nI 0)), (0, .ref (h 0)), (1, .ref (a 0))]) hx hb dX0_countAll_3 rfl hl (by decide) rfl (fun ls hl => ?_)
  have key4 : ∀ (d4 : Nat) (k : Nat) (hk : k ≤ n), n - k < d4 → ∀  (ls : Array Slot), lv_has ls 4 [(3, .int (nI k)), (2, .int (nI (fct hd k))), (0, .ref (h 0)), (1, .ref (a 0))] → W p l e ({ frames := 0, cells := 0, slots := 0, locals := 0 } : Room) s m ([.ref (h 0), .ref (a 0)] : List Value).toArray below meth c s.heap [] 0 0 (MQ below (rqI (nI (fct hd n))) ([.ref (h 0), .ref (a 0)] : List Value).toArray s 0 0 (fun _ => False)) (F0 m 4 ls []) := by
    intro d4
    induction d4 with
    | zero => intro k hk h9; exact absurd h9 (Nat.not_lt_zero _)
    | succ d4 ih4 =>
      intro k hk hm4  ls  hl
      refine lv_iload_n hx hb dX0_countAll_4 rfl (lv_at hl 0 rfl) ?_
      refine lv_aload_n hx hb dX0_countAll_5 rfl (lv_at hl 3 rfl) ?_
      refine va_getN (D := D) (ci := 2) (v := .int (nI n)) (C := RX2) (T := TX2) (N := 7) hx hb hts (fun _ h => List.mem_cons_of_mem _ (List.mem_append_left _ (List.mem_append_right _ h))) hown hK.1 hP 4 rfl rfl 6 (by decide) (va_Nw.use rfl (hK.2 _ (List.mem_of_getElem? (i := 16) rfl))) (fun _ h9 => h9) rfl dX0_countAll_6 ?_
      refine r_icmp_geN hx hb (x := k) (y := n) (by first | omega | decide) (by first | omega | decide) (tgt := 30) dX0_countAll_9 (by decide) (fun c9 => ?_) (fun c9 => ?_)
      · refine lv_iload_n hx hb dX0_countAll_30 rfl (lv_at hl 1 rfl) ?_
        refine r_top (y := nI (fct hd n)) (by rw [show k = n by omega]) ?_
        exact W.iret hx hb hr (fun t ht hW => ⟨_, rfl, rfl, ht⟩) (fun _ h => by cases h) dX0_countAll_31
      · refine lv_aload_n hx hb dX0_countAll_12 rfl (lv_at hl 2 rfl) ?_
        refine va_get (D := D) (ci := 0) (v := .ref (h 1)) (C := RX0) (T := TX0) (N := 3) hx hb hts (fun _ h => List.mem_cons_of_mem _ (List.mem_append_right _ h)) hown hK.1 hP 0 rfl rfl 0 (by decide) (hts (.fieldLink RX0 9 "RevisionStores$Holding" "held" "[Z") (List.mem_of_getElem? (i := 1) rfl)) (fun _ h9 => h9) rfl dX0_countAll_13 ?_
        refine lv_iload_n hx hb dX0_countAll_16 rfl (lv_at hl 0 rfl) ?_
        refine r_zald (j := k) (v := bI (hd k)) hx hb hK.1 hP 1 1 rfl rfl (by omega) (by first | decide | omega) rfl dX0_countAll_17 ?_
        refine r_if_eqB (x := hd k) (tgt := 24) hx hb dX0_countAll_18 (by decide) (fun c18 => ?_) (fun c18 => ?_)
        · refine lv_iinc (v := nI (k + 1)) (lv' := [(3, .int (nI (k + 1))), (2, .int (nI (fct hd k))), (0, .ref (h 0)), (1, .ref (a 0))]) hx hb dX0_countAll_24 hl (k := 0) rfl (nI_1 _) (by decide) rfl (fun ls hl => ?_)
          refine lv_goto (tgt := 4) hx hb dX0_countAll_27 (by decide) ?_
          have hl := lv_re (f := fun z9 => [(3, .int (nI (k + 1))), (2, .int z9), (0, .ref (h 0)), (1, .ref (a 0))]) hl (show nI (fct hd k) = nI (fct hd (k + 1)) from by simp [fct, c9, c18])
          exact ih4 (k + 1) (by first | assumption | omega) (by omega)  ls  (lv_sub hl [0, 1, 2, 3] rfl)
        · refine lv_iinc (v := nI (fct hd k + 1)) (lv' := [(2, .int (nI (fct hd k + 1))), (3, .int (nI k)), (0, .ref (h 0)), (1, .ref (a 0))]) hx hb dX0_countAll_21 hl (k := 1) rfl (nI_1 _) (by decide) rfl (fun ls hl => ?_)
          refine lv_iinc (v := nI (k + 1)) (lv' := [(3, .int (nI (k + 1))), (2, .int (nI (fct hd k + 1))), (0, .ref (h 0)), (1, .ref (a 0))]) hx hb dX0_countAll_24 hl (k := 1) rfl (nI_1 _) (by decide) rfl (fun ls hl => ?_)
          refine lv_goto (tgt := 4) hx hb dX0_countAll_27 (by decide) ?_
          have hl := lv_re (f := fun z9 => [(3, .int (nI (k + 1))), (2, .int z9), (0, .ref (h 0)), (1, .ref (a 0))]) hl (show nI (fct hd k + 1) = nI (fct hd (k + 1)) from by simp [fct, c9, c18])
          exact ih4 (k + 1) (by first | assumption | omega) (by omega)  ls  (lv_sub hl [0, 1, 2, 3] rfl)
  exact key4 ((n - 0) + 1) 0 (by first | assumption | omega) (Nat.lt_succ_self _)  ls  (lv_sub hl [0, 1, 2, 3] rfl)
set_option maxHeartbeats 8000000 in
set_option maxRecDepth 100000 in
theorem cX0_countLiveLeaves_ok (l : Launch) (D : va_G) (ct : Nat → ClassId) (h : Nat → Nat) (hd : Nat → Bool) (nl : Nat → Nat) (wi : Nat → Option Nat) (a : Nat → Nat) (n : Nat) (dc : Nat → Nat) (pa : Nat → Option Nat) (va : Nat → Int32) (dl : Nat → Bool) (ge : Nat → Nat) (su : Nat → Int32) (d : Nat) (hn : n ≤ 150) (hTd : ∀ k, dc k < 4) (hNl : ∀ k, nl k ≤ 151) (hd4 : d < 4) : Met l yX0_countLiveLeaves wsX0_countLiveLeaves ({ frames := 2, cells := 0, slots := 0, locals := 42 } : Room) (roPc D ct [.ref (h 0), .ref (a 0), .int (nI d)] (wH ct h hd nl wi ++ wT ct a n dc pa va dl ge su)) (rqI (nI (fct (fun k => decide (dc k = d) && (ends hd nl k && !dl k)) n))) 0 0 (fun _ => False) := by
  refine Met.ofW (cc := cX0_countLiveLeaves) (maxL := 5) (ret := (some .int)) (by decide) rfl ?_
  intro p e s m args below meth c s₁ B hml hv
  obtain ⟨rfl, hP, hK⟩ := hv
  have hx := B.exec
  have hb := B.bytes
  have hr := B.returns
  have hts := atoms_spec (ws := wsX0_countLiveLeaves) B.pre
  have hown : s.vm.findClass RX0 = some m.cls := findClass_of_methodNamed B.named
  have hlocks := B.notSynchronized
  have hl := lv_entry ([.ref (h 0), .ref (a 0), .int (nI d)]) (n := 5) (Nat.le_of_ble_eq_true rfl)
  rw [lg_entry_eq]
  generalize (lg_sl ([.ref (h 0), .ref (a 0), .int (nI d)]) ++ List.replicate (5 - (lg_sl ([.ref (h 0), .ref (a 0), .int (nI d)])).length) Slot.unset).toArray = ls at hl ⊢
  have hl : lv_has ls 5 [(0, .ref (h 0)), (1, .ref (a 0)), (2, .int (nI d))] := hl
  refine lv_iconst (v := nI 0) hx hb dX0_countLiveLeaves_0 (by decide) ?_
  refine lv_istore_n (lv' := [(3, .int (nI 0)), (0, .ref (h 0)), (1, .ref (a 0)), (2, .int (nI d))]) hx hb dX0_countLiveLeaves_1 rfl hl (by decide) rfl (fun ls hl => ?_)
  refine lv_iconst (v := nI 0) hx hb dX0_countLiveLeaves_2 (by decide) ?_
  refine lv_istore (lv' := [(4, .int (nI 0)), (3, .int (nI 0)), (0, .ref (h 0)), (1, .ref (a 0)), (2, .int (nI d))]) hx hb dX0_countLiveLeaves_3 hl (by decide) rfl (fun ls hl => ?_)
  have key5 : ∀ (d5 : Nat) (k : Nat) (hk : k ≤ n), n - k < d5 → ∀  (ls : Array Slot), lv_has ls 5 [(4, .int (nI k)), (3, .int (nI (fct (fun k => decide (dc k = d) && (ends hd nl k && !dl k)) k))), (0, .ref (h 0)), (1, .ref (a 0)), (2, .int (nI d))] → W p l e ({ frames := 2, cells := 0, slots := 0, locals := 42 } : Room) s m ([.ref (h 0), .ref (a 0), .int (nI d)] : List Value).toArray below meth c s.heap [] 0 0 (MQ below (rqI (nI (fct (fun k => decide (dc k = d) && (ends hd nl k && !dl k)) n))) ([.ref (h 0), .ref (a 0), .int (nI d)] : List Value).toArray s 0 0 (fun _ => False)) (F0 m 5 ls []) := by
    intro d5
    induction d5 with
    | zero => intro k hk h9; exact absurd h9 (Nat.not_lt_zero _)
    | succ d5 ih5 =>
      intro k hk hm5  ls  hl
      refine lv_iload hx hb dX0_countLiveLeaves_5 (lv_at hl 0 rfl) ?_
      refine lv_aload_n hx hb dX0_countLiveLeaves_7 rfl (lv_at hl 3 rfl) ?_
      refine va_getN (D := D) (ci := 2) (v := .int (nI n)) (C := RX2) (T := TX2) (N := 7) hx hb hts (fun _ h => List.mem_cons_of_mem _ (List.mem_append_left _ (List.mem_append_right _ h))) hown hK.1 hP 4 rfl rfl 6 (by decide) (va_Nw.use rfl (hK.2 _ (List.mem_of_getElem? (i := 16) rfl))) (fun _ h9 => h9) rfl dX0_countLiveLeaves_8 ?_
      refine r_icmp_geN hx hb (x := k) (y := n) (by first | omega | decide) (by first | omega | decide) (tgt := 53) dX0_countLiveLeaves_11 (by decide) (fun c11 => ?_) (fun c11 => ?_)
      · refine lv_iload_n hx hb dX0_countLiveLeaves_53 rfl (lv_at hl 1 rfl) ?_
        refine r_top (y := nI (fct (fun k => decide (dc k = d) && (ends hd nl k && !dl k)) n)) (by rw [show k = n by omega]) ?_
        exact W.iret hx hb hr (fun t ht hW => ⟨_, rfl, rfl, ht⟩) (fun _ h => by cases h) dX0_countLiveLeaves_54
      · refine lv_aload_n hx hb dX0_countLiveLeaves_14 rfl (lv_at hl 3 rfl) ?_
        refine va_getN (D := D) (ci := 2) (v := .ref (a 1)) (C := RX2) (T := TX2) (N := 7) hx hb hts (fun _ h => List.mem_cons_of_mem _ (List.mem_append_left _ (List.mem_append_right _ h))) hown hK.1 hP 4 rfl rfl 0 (by decide) (va_Nw.use rfl (hK.2 _ (List.mem_of_getElem? (i := 19) rfl))) (fun _ h9 => h9) rfl dX0_countLiveLeaves_15 ?_
        refine lv_iload hx hb dX0_countLiveLeaves_18 (lv_at hl 0 rfl) ?_
        refine r_iald (j := k) (v := nI (dc k)) hx hb hK.1 hP 5 0 rfl rfl (by omega) (by first | decide | omega) rfl dX0_countLiveLeaves_20 ?_
        have f20 := hTd k
        refine lv_iload_n hx hb dX0_countLiveLeaves_21 rfl (lv_at hl 4 rfl) ?_
        refine r_icmp_neN hx hb (x := dc k) (y := d) (by first | omega | decide) (by first | omega | decide) (tgt := 47) dX0_countLiveLeaves_22 (by decide) (fun c22 => ?_) (fun c22 => ?_)
        · refine lv_iinc (v := nI (k + 1)) (lv' := [(4, .int (nI (k + 1))), (3, .int (nI (fct (fun k => decide (dc k = d) && (ends hd nl k && !dl k)) k))), (0, .ref (h 0)), (1, .ref (a 0)), (2, .int (nI d))]) hx hb dX0_countLiveLeaves_47 hl (k := 0) rfl (nI_1 _) (by decide) rfl (fun ls hl => ?_)
          refine lv_goto (tgt := 5) hx hb dX0_countLiveLeaves_50 (by decide) ?_
          have hl := lv_re (f := fun z9 => [(4, .int (nI (k + 1))), (3, .int z9), (0, .ref (h 0)), (1, .ref (a 0)), (2, .int (nI d))]) hl (show nI (fct (fun k => decide (dc k = d) && (ends hd nl k && !dl k)) k) = nI (fct (fun (k + 1) => decide (dc (k + 1) = d) && (ends hd nl (k + 1) && !dl (k + 1))) (k + 1)) from by simp [fct, c11, c22])
          exact ih5 (k + 1) (by first | assumption | omega) (by omega)  ls  (lv_sub hl [0, 1, 2, 3, 4] rfl)
        · refine lv_aload_n hx hb dX0_countLiveLeaves_25 rfl (lv_at hl 2 rfl) ?_
          refine lv_iload hx hb dX0_countLiveLeaves_26 (lv_at hl 0 rfl) ?_
          refine r_cV (As := [.int (nI k)]) (rest := []) ⟨hx, hb, hml, hown, hts⟩ (cX0_endsAt_ok l D ct h hd nl wi k (by first | assumption | omega) (hNl _)) (cwV 1 hts gX0_countLiveLeaves_X0_endsAt rfl rfl rfl (by decide +kernel) ⟨Nat.le_of_ble_eq_true rfl, Nat.le_of_ble_eq_true rfl⟩) hK (hP.sub (ws' := wH ct h hd nl wi) [0, 1, 2, 3] rfl) 0 0 rfl rfl rfl hl.1 rfl (Nat.le_of_ble_eq_true rfl) dX0_countLiveLeaves_28 ⟨Nat.le_of_ble_eq_true rfl, Nat.le_of_ble_eq_true rfl⟩ ?_
          refine r_if_eqB (x := ends hd nl k) (tgt := 47) hx hb dX0_countLiveLeaves_31 (by decide) (fun c31 => ?_) (fun c31 => ?_)
          · refine lv_iinc (v := nI (k + 1)) (lv' := [(4, .int (nI (k + 1))), (3, .int (nI (fct (fun k => decide (dc k = d) && (ends hd nl k && !dl k)) k))), (0, .ref (h 0)), (1, .ref (a 0)), (2, .int (nI d))]) hx hb dX0_countLiveLeaves_47 hl (k := 0) rfl (nI_1 _) (by decide) rfl (fun ls hl => ?_)
            refine lv_goto (tgt := 5) hx hb dX0_countLiveLeaves_50 (by decide) ?_
            have hl := lv_re (f := fun z9 => [(4, .int (nI (k + 1))), (3, .int z9), (0, .ref (h 0)), (1, .ref (a 0)), (2, .int (nI d))]) hl (show nI (fct (fun k => decide (dc k = d) && (ends hd nl k && !dl k)) k) = nI (fct (fun (k + 1) => decide (dc (k + 1) = d) && (ends hd nl (k + 1) && !dl (k + 1))) (k + 1)) from by simp [fct, c11, c22, c31])
            exact ih5 (k + 1) (by first | assumption | omega) (by omega)  ls  (lv_sub hl [0, 1, 2, 3, 4] rfl)
          · refine lv_aload_n hx hb dX0_countLiveLeaves_34 rfl (lv_at hl 3 rfl) ?_
            refine va_getN (D := D) (ci := 2) (v := .ref (a 4)) (C := RX2) (T := TX2) (N := 7) hx hb hts (fun _ h => List.mem_cons_of_mem _ (List.mem_append_left _ (List.mem_append_right _ h))) hown hK.1 hP 4 rfl rfl 3 (by decide) (va_Nw.use rfl (hK.2 _ (List.mem_of_getElem? (i := 20) rfl))) (fun _ h9 => h9) rfl dX0_countLiveLeaves_35 ?_
            refine lv_iload hx hb dX0_countLiveLeaves_38 (lv_at hl 0 rfl) ?_
            refine r_zald (j := k) (v := bI (dl k)) hx hb hK.1 hP 8 1 rfl rfl (by omega) (by first | decide | omega) rfl dX0_countLiveLeaves_40 ?_
            refine r_if_neB (x := dl k) (tgt := 47) hx hb dX0_countLiveLeaves_41 (by decide) (fun c41 => ?_) (fun c41 => ?_)
            · refine lv_iinc (v := nI (k + 1)) (lv' := [(4, .int (nI (k + 1))), (3, .int (nI (fct (fun k => decide (dc k = d) && (ends hd nl k && !dl k)) k))), (0, .ref (h 0)), (1, .ref (a 0)), (2, .int (nI d))]) hx hb dX0_countLiveLeaves_47 hl (k := 0) rfl (nI_1 _) (by decide) rfl (fun ls hl => ?_)
              refine lv_goto (tgt := 5) hx hb dX0_countLiveLeaves_50 (by decide) ?_
              have hl := lv_re (f := fun z9 => [(4, .int (nI (k + 1))), (3, .int z9), (0, .ref (h 0)), (1, .ref (a 0)), (2, .int (nI d))]) hl (show nI (fct (fun k => decide (dc k = d) && (ends hd nl k && !dl k)) k) = nI (fct (fun (k + 1) => decide (dc (k + 1) = d) && (ends hd nl (k + 1) && !dl (k + 1))) (k + 1)) from by simp [fct, c11, c22, c31, c41])
              exact ih5 (k + 1) (by first | assumption | omega) (by omega)  ls  (lv_sub hl [0, 1, 2, 3, 4] rfl)
            · refine lv_iinc (v := nI (fct (fun k => decide (dc k = d) && (ends hd nl k && !dl k)) k + 1)) (lv' := [(3, .int (nI (fct (fun k => decide (dc k = d) && (ends hd nl k && !dl k)) k + 1))), (4, .int (nI k)), (0, .ref (h 0)), (1, .ref (a 0)), (2, .int (nI d))]) hx hb dX0_countLiveLeaves_44 hl (k := 1) rfl (nI_1 _) (by decide) rfl (fun ls hl => ?_)
              refine lv_iinc (v := nI (k + 1)) (lv' := [(4, .int (nI (k + 1))), (3, .int (nI (fct (fun k => decide (dc k = d) && (ends hd nl k && !dl k)) k + 1))), (0, .ref (h 0)), (1, .ref (a 0)), (2, .int (nI d))]) hx hb dX0_countLiveLeaves_47 hl (k := 1) rfl (nI_1 _) (by decide) rfl (fun ls hl => ?_)
              refine lv_goto (tgt := 5) hx hb dX0_countLiveLeaves_50 (by decide) ?_
              have hl := lv_re (f := fun z9 => [(4, .int (nI (k + 1))), (3, .int z9), (0, .ref (h 0)), (1, .ref (a 0)), (2, .int (nI d))]) hl (show nI (fct (fun k => decide (dc k = d) && (ends hd nl k && !dl k)) k + 1) = nI (fct (fun (k + 1) => decide (dc (k + 1) = d) && (ends hd nl (k + 1) && !dl (k + 1))) (k + 1)) from by simp [fct, c11, c22, c31, c41])
              exact ih5 (k + 1) (by first | assumption | omega) (by omega)  ls  (lv_sub hl [0, 1, 2, 3, 4] rfl)
  exact key5 ((n - 0) + 1) 0 (by first | assumption | omega) (Nat.lt_succ_self _)  ls  (lv_sub hl [0, 1, 2, 3, 4] rfl)
set_option maxHeartbeats 8000000 in
set_option maxRecDepth 100000 in
theorem cX0_shownValue_ok (l : Launch) (D : va_G) (ct : Nat → ClassId) (h : Nat → Nat) (hd : Nat → Bool) (nl : Nat → Nat) (wi : Nat → Option Nat) (a : Nat → Nat) (n : Nat) (dc : Nat → Nat) (pa : Nat → Option Nat) (va : Nat → Int32) (dl : Nat → Bool) (ge : Nat → Nat) (su : Nat → Int32) (d : Nat) (hn : n ≤ 150) (hWi : ∀ d j, wi d = some j → j < n) (hd4 : d < 4) : Met l yX0_shownValue wsX0_shownValue ({ frames := 0, cells := 0, slots := 0, locals := 0 } : Room) (roPc D ct [.ref (h 0), .ref (a 0), .int (nI d)] (wH ct h hd nl wi ++ wT ct a n dc pa va dl ge su)) (rqI (shv dl va wi d)) 0 0 (fun _ => False) := by
  refine Met.ofW (cc := cX0_shownValue) (maxL := 4) (ret := (some .int)) (by decide) rfl ?_
  intro p e s m args below meth c s₁ B hml hv
  obtain ⟨rfl, hP, hK⟩ := hv
  have hx := B.exec
  have hb := B.bytes
  have hr := B.returns
  have hts := atoms_spec (ws := wsX0_shownValue) B.pre
  have hown : s.vm.findClass RX0 = some m.cls := findClass_of_methodNamed B.named
  have hlocks := B.notSynchronized
  have hl := lv_entry ([.ref (h 0), .ref (a 0), .int (nI d)]) (n := 4) (Nat.le_of_ble_eq_true rfl)
  rw [lg_entry_eq]
  generalize (lg_sl ([.ref (h 0), .ref (a 0), .int (nI d)]) ++ List.replicate (4 - (lg_sl ([.ref (h 0), .ref (a 0), .int (nI d)])).length) Slot.unset).toArray = ls at hl ⊢
  have hl : lv_has ls 4 [(0, .ref (h 0)), (1, .ref (a 0)), (2, .int (nI d))] := hl
  refine lv_aload_n hx hb dX0_shownValue_0 rfl (lv_at hl 0 rfl) ?_
  refine va_get (D := D) (ci := 0) (v := .ref (h 3)) (C := RX0) (T := TX0) (N := 3) hx hb hts (fun _ h => List.mem_cons_of_mem _ (List.mem_append_left _ (List.mem_append_right _ h))) hown hK.1 hP 0 rfl rfl 2 (by decide) (hts (.fieldLink RX0 19 "RevisionStores$Holding" "winners" "[I") (List.mem_of_getElem? (i := 1) rfl)) (fun _ h9 => h9) rfl dX0_shownValue_1 ?_
  refine lv_iload_n hx hb dX0_shownValue_4 rfl (lv_at hl 2 rfl) ?_
  refine r_iald (j := d) (v := eP (wi d)) hx hb hK.1 hP 3 0 rfl rfl (by omega) (by first | decide | omega) rfl dX0_shownValue_5 ?_
  refine lv_istore_n (lv' := [(3, .int (eP (wi d))), (0, .ref (h 0)), (1, .ref (a 0)), (2, .int (nI d))]) hx hb dX0_shownValue_6 rfl hl (by decide) rfl (fun ls hl => ?_)
  refine lv_iload_n hx hb dX0_shownValue_7 rfl (lv_at hl 0 rfl) ?_
  refine lv_iconst (v := -1) hx hb dX0_shownValue_8 (by decide) ?_
  refine r_icmp_eqP hx hb (x := wi d) (by intro j9 h9; have := hWi _ _ h9; omega) (tgt := 21) dX0_shownValue_9 (by decide) (fun c9 => ?_) (fun j9 c9 => ?_)
  · have hl := lv_re (f := fun z9 => [(3, .int z9), (0, .ref (h 0)), (1, .ref (a 0)), (2, .int (nI d))]) hl (show eP (wi d) = eP none from congrArg eP c9)
    refine lv_iconst (v := -1) hx hb dX0_shownValue_21 (by decide) ?_
    refine lv_goto (tgt := 31) hx hb dX0_shownValue_22 (by decide) ?_
    refine r_top (y := shv dl va wi d) (by simp [shv, eP, c9]) ?_
    exact W.iret hx hb hr (fun t ht hW => ⟨_, rfl, rfl, ht⟩) (fun _ h => by cases h) dX0_shownValue_31
  · have hl := lv_re (f := fun z9 => [(3, .int z9), (0, .ref (h 0)), (1, .ref (a 0)), (2, .int (nI d))]) hl (show eP (wi d) = nI j9 from congrArg eP c9)
    have e12 := hWi _ _ c9
    refine lv_aload_n hx hb dX0_shownValue_12 rfl (lv_at hl 2 rfl) ?_
    refine va_getN (D := D) (ci := 2) (v := .ref (a 4)) (C := RX2) (T := TX2) (N := 7) hx hb hts (fun _ h => List.mem_cons_of_mem _ (List.mem_append_right _ h)) hown hK.1 hP 4 rfl rfl 3 (by decide) (va_Nw.use rfl (hK.2 _ (List.mem_of_getElem? (i := 20) rfl))) (fun _ h9 => h9) rfl dX0_shownValue_13 ?_
    refine lv_iload_n hx hb dX0_shownValue_16 rfl (lv_at hl 0 rfl) ?_
    refine r_zald (j := j9) (v := bI (dl j9)) hx hb hK.1 hP 8 1 rfl rfl (by omega) (by first | decide | omega) rfl dX0_shownValue_17 ?_
    refine r_if_eqB (x := dl j9) (tgt := 25) hx hb dX0_shownValue_18 (by decide) (fun c18 => ?_) (fun c18 => ?_)
    · refine lv_aload_n hx hb dX0_shownValue_25 rfl (lv_at hl 2 rfl) ?_
      refine va_getN (D := D) (ci := 2) (v := .ref (a 3)) (C := RX2) (T := TX2) (N := 7) hx hb hts (fun _ h => List.mem_cons_of_mem _ (List.mem_append_right _ h)) hown hK.1 hP 4 rfl rfl 2 (by decide) (va_Nw.use rfl (hK.2 _ (List.mem_of_getElem? (i := 21) rfl))) (fun _ h9 => h9) rfl dX0_shownValue_26 ?_
      refine lv_iload_n hx hb dX0_shownValue_29 rfl (lv_at hl 0 rfl) ?_
      refine r_iald (j := j9) (v := va j9) hx hb hK.1 hP 7 0 rfl rfl (by omega) (by first | decide | omega) rfl dX0_shownValue_30 ?_
      refine r_top (y := shv dl va wi d) (by simp [shv, eP, c9, c18]) ?_
      exact W.iret hx hb hr (fun t ht hW => ⟨_, rfl, rfl, ht⟩) (fun _ h => by cases h) dX0_shownValue_31
    · refine lv_iconst (v := -1) hx hb dX0_shownValue_21 (by decide) ?_
      refine lv_goto (tgt := 31) hx hb dX0_shownValue_22 (by decide) ?_
      refine r_top (y := shv dl va wi d) (by simp [shv, eP, c9, c18]) ?_
      exact W.iret hx hb hr (fun t ht hW => ⟨_, rfl, rfl, ht⟩) (fun _ h => by cases h) dX0_shownValue_31
set_option maxHeartbeats 8000000 in
set_option maxRecDepth 100000 in
theorem cX0_countShownBefore_ok (l : Launch) (D : va_G) (ct : Nat → ClassId) (h : Nat → Nat) (hd : Nat → Bool) (nl : Nat → Nat) (wi : Nat → Option Nat) (a : Nat → Nat) (n : Nat) (dc : Nat → Nat) (pa : Nat → Option Nat) (va : Nat → Int32) (dl : Nat → Bool) (ge : Nat → Nat) (su : Nat → Int32) (v : Int32) (d : Nat) (hn : n ≤ 150) (hWi : ∀ d j, wi d = some j → j < n) (hd4 : d < 4) : Met l yX0_countShownBefore wsX0_countShownBefore ({ frames := 1, cells := 0, slots := 0, locals := 23 } : Room) (roPc D ct [.ref (h 0), .ref (a 0), .int v, .int (nI d)] (wH ct h hd nl wi ++ wT ct a n dc pa va dl ge su)) (rqI (nI (fct (bfC (shv dl va wi) v d) 4))) 0 0 (fun _ => False) := by
  refine Met.ofW (cc := cX0_countShownBefore) (maxL := 7) (ret := (some .int)) (by decide) rfl ?_
  intro p e s m args below meth c s₁ B hml hv
  obtain ⟨rfl, hP, hK⟩ := hv
  have hx := B.exec
  have hb := B.bytes
  have hr := B.returns
  have hts := atoms_spec (ws := wsX0_countShownBefore) B.pre
  have hown : s.vm.findClass RX0 = some m.cls := findClass_of_methodNamed B.named
  have hlocks := B.notSynchronized
  have hl := lv_entry ([.ref (h 0), .ref (a 0), .int v, .int (nI d)]) (n := 7) (Nat.le_of_ble_eq_true rfl)
  rw [lg_entry_eq]
  generalize (lg_sl ([.ref (h 0), .ref (a 0), .int v, .int (nI d)]) ++ List.replicate (7 - (lg_sl ([.ref (h 0), .ref (a 0), .int v, .int (nI d)])).length) Slot.unset).toArray = ls at hl ⊢
  have hl : lv_has ls 7 [(0, .ref (h 0)), (1, .ref (a 0)), (2, .int v), (3, .int (nI d))] := hl
  refine lv_iconst (v := nI 0) hx hb dX0_countShownBefore_0 (by decide) ?_
  refine lv_istore (lv' := [(4, .int (nI 0)), (0, .ref (h 0)), (1, .ref (a 0)), (2, .int v), (3, .int (nI d))]) hx hb dX0_countShownBefore_1 hl (by decide) rfl (fun ls hl => ?_)
  refine lv_iconst (v := nI 0) hx hb dX0_countShownBefore_3 (by decide) ?_
  refine lv_istore (lv' := [(5, .int (nI 0)), (4, .int (nI 0)), (0, .ref (h 0)), (1, .ref (a 0)), (2, .int v), (3, .int (nI d))]) hx hb dX0_countShownBefore_4 hl (by decide) rfl (fun ls hl => ?_)
  have key6 : ∀ (d6 : Nat) (k : Nat) (hk : k ≤ 4), 4 - k < d6 → ∀  (ls : Array Slot), lv_has ls 7 [(5, .int (nI k)), (4, .int (nI (fct (bfC (shv dl va wi) v d) k))), (0, .ref (h 0)), (1, .ref (a 0)), (2, .int v), (3, .int (nI d))] → W p l e ({ frames := 1, cells := 0, slots := 0, locals := 23 } : Room) s m ([.ref (h 0), .ref (a 0), .int v, .int (nI d)] : List Value).toArray below meth c s.heap [] 0 0 (MQ below (rqI (nI (fct (bfC (shv dl va wi) v d) 4))) ([.ref (h 0), .ref (a 0), .int v, .int (nI d)] : List Value).toArray s 0 0 (fun _ => False)) (F0 m 6 ls []) := by
    intro d6
    induction d6 with
    | zero => intro k hk h9; exact absurd h9 (Nat.not_lt_zero _)
    | succ d6 ih6 =>
      intro k hk hm6  ls  hl
      refine lv_iload hx hb dX0_countShownBefore_6 (lv_at hl 0 rfl) ?_
      refine lv_iconst (v := nI 4) hx hb dX0_countShownBefore_8 (by decide) ?_
      refine r_icmp_geN hx hb (x := k) (y := 4) (by first | omega | decide) (by first | omega | decide) (tgt := 54) dX0_countShownBefore_9 (by decide) (fun c9 => ?_) (fun c9 => ?_)
      · refine lv_iload hx hb dX0_countShownBefore_54 (lv_at hl 1 rfl) ?_
        refine r_top (y := nI (fct (bfC (shv dl va wi) v d) 4)) (by rw [show k = 4 by omega]) ?_
        exact W.iret hx hb hr (fun t ht hW => ⟨_, rfl, rfl, ht⟩) (fun _ h => by cases h) dX0_countShownBefore_56
      · refine lv_aload_n hx hb dX0_countShownBefore_12 rfl (lv_at hl 2 rfl) ?_
        refine lv_aload_n hx hb dX0_countShownBefore_13 rfl (lv_at hl 3 rfl) ?_
        refine lv_iload hx hb dX0_countShownBefore_14 (lv_at hl 0 rfl) ?_
        refine r_cV (As := [.ref (a 0), .int (nI k)]) (rest := []) ⟨hx, hb, hml, hown, hts⟩ (cX0_shownValue_ok l D ct h hd nl wi a n dc pa va dl ge su k (by first | assumption | omega) (by first | assumption | omega) (by first | assumption | omega)) (cwV 2 hts gX0_countShownBefore_X0_shownValue rfl rfl rfl (by decide +kernel) ⟨Nat.le_of_ble_eq_true rfl, Nat.le_of_ble_eq_true rfl⟩) hK (hP.sub (ws' := wH ct h hd nl wi ++ wT ct a n dc pa va dl ge su) [0, 1, 2, 3, 4, 5, 6, 7, 8, 9, 10] rfl) 0 0 rfl rfl rfl hl.1 rfl (Nat.le_of_ble_eq_true rfl) dX0_countShownBefore_16 ⟨Nat.le_of_ble_eq_true rfl, Nat.le_of_ble_eq_true rfl⟩ ?_
        refine lv_istore (lv' := [(6, .int (shv dl va wi k)), (5, .int (nI k)), (4, .int (nI (fct (bfC (shv dl va wi) v d) k))), (0, .ref (h 0)), (1, .ref (a 0)), (2, .int v), (3, .int (nI d))]) hx hb dX0_countShownBefore_19 hl (by decide) rfl (fun ls hl => ?_)
        refine lv_iload hx hb dX0_countShownBefore_21 (lv_at hl 0 rfl) ?_
        refine lv_iconst (v := -1) hx hb dX0_countShownBefore_23 (by decide) ?_
        refine lv_icmp_eq (x := shv dl va wi k) (y := eP none) (tgt := 48) hx hb dX0_countShownBefore_24 (by decide) (fun c24 => ?_) (fun c24 => ?_)
        · refine lv_iinc (v := nI (k + 1)) (lv' := [(5, .int (nI (k + 1))), (6, .int (shv dl va wi k)), (4, .int (nI (fct (bfC (shv dl va wi) v d) k))), (0, .ref (h 0)), (1, .ref (a 0)), (2, .int v), (3, .int (nI d))]) hx hb dX0_countShownBefore_48 hl (k := 1) rfl (nI_1 _) (by decide) rfl (fun ls hl => ?_)
          refine lv_goto (tgt := 6) hx hb dX0_countShownBefore_51 (by decide) ?_
          have hl := lv_re (f := fun z9 => [(5, .int (nI (k + 1))), (6, .int (shv dl va wi k)), (4, .int z9), (0, .ref (h 0)), (1, .ref (a 0)), (2, .int v), (3, .int (nI d))]) hl (show nI (fct (bfC (shv dl va wi) v d) k) = nI (fct (bfC (shv dl va wi) v d) (k + 1)) from by simp [fct, bfC, c9, c24])
          exact ih6 (k + 1) (by first | assumption | omega) (by omega)  ls  (lv_sub hl [0, 2, 3, 4, 5, 6] rfl)
        · refine lv_iload hx hb dX0_countShownBefore_27 (lv_at hl 0 rfl) ?_
          refine lv_iload_n hx hb dX0_countShownBefore_29 rfl (lv_at hl 5 rfl) ?_
          refine lv_icmp_lt (x := shv dl va wi k) (y := v) (tgt := 45) hx hb dX0_countShownBefore_30 (by decide) (fun c30 => ?_) (fun c30 => ?_)
          · refine lv_iinc (v := nI (fct (bfC (shv dl va wi) v d) k + 1)) (lv' := [(4, .int (nI (fct (bfC (shv dl va wi) v d) k + 1))), (6, .int (shv dl va wi k)), (5, .int (nI k)), (0, .ref (h 0)), (1, .ref (a 0)), (2, .int v), (3, .int (nI d))]) hx hb dX0_countShownBefore_45 hl (k := 2) rfl (nI_1 _) (by decide) rfl (fun ls hl => ?_)
            refine lv_iinc (v := nI (k + 1)) (lv' := [(5, .int (nI (k + 1))), (4, .int (nI (fct (bfC (shv dl va wi) v d) k + 1))), (6, .int (shv dl va wi k)), (0, .ref (h 0)), (1, .ref (a 0)), (2, .int v), (3, .int (nI d))]) hx hb dX0_countShownBefore_48 hl (k := 2) rfl (nI_1 _) (by decide) rfl (fun ls hl => ?_)
            refine lv_goto (tgt := 6) hx hb dX0_countShownBefore_51 (by decide) ?_
            have hl := lv_re (f := fun z9 => [(5, .int (nI (k + 1))), (4, .int z9), (6, .int (shv dl va wi k)), (0, .ref (h 0)), (1, .ref (a 0)), (2, .int v), (3, .int (nI d))]) hl (show nI (fct (bfC (shv dl va wi) v d) k + 1) = nI (fct (bfC (shv dl va wi) v d) (k + 1)) from by simp [fct, bfC, c9, c24, c30])
            exact ih6 (k + 1) (by first | assumption | omega) (by omega)  ls  (lv_sub hl [0, 1, 3, 4, 5, 6] rfl)
          · refine lv_iload hx hb dX0_countShownBefore_33 (lv_at hl 0 rfl) ?_
            refine lv_iload_n hx hb dX0_countShownBefore_35 rfl (lv_at hl 5 rfl) ?_
            refine lv_icmp_ne (x := shv dl va wi k) (y := v) (tgt := 48) hx hb dX0_countShownBefore_36 (by decide) (fun c36 => ?_) (fun c36 => ?_)
            · refine lv_iinc (v := nI (k + 1)) (lv' := [(5, .int (nI (k + 1))), (6, .int (shv dl va wi k)), (4, .int (nI (fct (bfC (shv dl va wi) v d) k))), (0, .ref (h 0)), (1, .ref (a 0)), (2, .int v), (3, .int (nI d))]) hx hb dX0_countShownBefore_48 hl (k := 1) rfl (nI_1 _) (by decide) rfl (fun ls hl => ?_)
              refine lv_goto (tgt := 6) hx hb dX0_countShownBefore_51 (by decide) ?_
              have hl := lv_re (f := fun z9 => [(5, .int (nI (k + 1))), (6, .int (shv dl va wi k)), (4, .int z9), (0, .ref (h 0)), (1, .ref (a 0)), (2, .int v), (3, .int (nI d))]) hl (show nI (fct (bfC (shv dl va wi) v d) k) = nI (fct (bfC (shv dl va wi) v d) (k + 1)) from by simp [fct, bfC, c9, c24, c30, c36])
              exact ih6 (k + 1) (by first | assumption | omega) (by omega)  ls  (lv_sub hl [0, 2, 3, 4, 5, 6] rfl)
            · refine lv_iload hx hb dX0_countShownBefore_39 (lv_at hl 1 rfl) ?_
              refine lv_iload_n hx hb dX0_countShownBefore_41 rfl (lv_at hl 6 rfl) ?_
              refine r_icmp_geN hx hb (x := k) (y := d) (by first | omega | decide) (by first | omega | decide) (tgt := 48) dX0_countShownBefore_42 (by decide) (fun c42 => ?_) (fun c42 => ?_)
              · refine lv_iinc (v := nI (k + 1)) (lv' := [(5, .int (nI (k + 1))), (6, .int (shv dl va wi k)), (4, .int (nI (fct (bfC (shv dl va wi) v d) k))), (0, .ref (h 0)), (1, .ref (a 0)), (2, .int v), (3, .int (nI d))]) hx hb dX0_countShownBefore_48 hl (k := 1) rfl (nI_1 _) (by decide) rfl (fun ls hl => ?_)
                refine lv_goto (tgt := 6) hx hb dX0_countShownBefore_51 (by decide) ?_
                have hl := lv_re (f := fun z9 => [(5, .int (nI (k + 1))), (6, .int (shv dl va wi k)), (4, .int z9), (0, .ref (h 0)), (1, .ref (a 0)), (2, .int v), (3, .int (nI d))]) hl (show nI (fct (bfC (shv dl va wi) v d) k) = nI (fct (bfC (shv dl va wi) v d) (k + 1)) from by simp [fct, bfC, c9, c24, c30, c36, c42])
                exact ih6 (k + 1) (by first | assumption | omega) (by omega)  ls  (lv_sub hl [0, 2, 3, 4, 5, 6] rfl)
              · refine lv_iinc (v := nI (fct (bfC (shv dl va wi) v d) k + 1)) (lv' := [(4, .int (nI (fct (bfC (shv dl va wi) v d) k + 1))), (6, .int (shv dl va wi k)), (5, .int (nI k)), (0, .ref (h 0)), (1, .ref (a 0)), (2, .int v), (3, .int (nI d))]) hx hb dX0_countShownBefore_45 hl (k := 2) rfl (nI_1 _) (by decide) rfl (fun ls hl => ?_)
                refine lv_iinc (v := nI (k + 1)) (lv' := [(5, .int (nI (k + 1))), (4, .int (nI (fct (bfC (shv dl va wi) v d) k + 1))), (6, .int (shv dl va wi k)), (0, .ref (h 0)), (1, .ref (a 0)), (2, .int v), (3, .int (nI d))]) hx hb dX0_countShownBefore_48 hl (k := 2) rfl (nI_1 _) (by decide) rfl (fun ls hl => ?_)
                refine lv_goto (tgt := 6) hx hb dX0_countShownBefore_51 (by decide) ?_
                have hl := lv_re (f := fun z9 => [(5, .int (nI (k + 1))), (4, .int z9), (6, .int (shv dl va wi k)), (0, .ref (h 0)), (1, .ref (a 0)), (2, .int v), (3, .int (nI d))]) hl (show nI (fct (bfC (shv dl va wi) v d) k + 1) = nI (fct (bfC (shv dl va wi) v d) (k + 1)) from by simp [fct, bfC, c9, c24, c30, c36, c42])
                exact ih6 (k + 1) (by first | assumption | omega) (by omega)  ls  (lv_sub hl [0, 1, 3, 4, 5, 6] rfl)
  exact key6 ((4 - 0) + 1) 0 (by first | assumption | omega) (Nat.lt_succ_self _)  ls  (lv_sub hl [0, 1, 2, 3, 4, 5] rfl)
set_option maxHeartbeats 8000000 in
set_option maxRecDepth 100000 in
theorem cX1_nextChanged_ok (l : Launch) (D : va_G) (ct : Nat → ClassId) (z : Nat → Nat) (dp : Int32) (lt : Int32) (ch : Nat → Int32) (ck : Nat → Int32) (h : Nat → Nat) (x : Int32)  : Met l yX1_nextChanged wsX1_nextChanged ({ frames := 0, cells := 0, slots := 0, locals := 0 } : Room) (roPc D ct [.ref (z 0), .int x] (wS ct z h dp lt ch ck)) (rqI (eP (nxS ch x 4))) 0 0 (fun _ => False) := by
  refine Met.ofW (cc := cX1_nextChanged) (maxL := 4) (ret := (some .int)) (by decide) rfl ?_
  intro p e s m args below meth c s₁ B hml hv
  obtain ⟨rfl, hP, hK⟩ := hv
  have hx := B.exec
  have hb := B.bytes
  have hr := B.returns
  have hts := atoms_spec (ws := wsX1_nextChanged) B.pre
  have hown : s.vm.findClass RX1 = some m.cls := findClass_of_methodNamed B.named
  have hlocks := B.notSynchronized
  have hl := lv_entry ([.ref (z 0), .int x]) (n := 4) (Nat.le_of_ble_eq_true rfl)
  rw [lg_entry_eq]
  generalize (lg_sl ([.ref (z 0), .int x]) ++ List.replicate (4 - (lg_sl ([.ref (z 0), .int x])).length) Slot.unset).toArray = ls at hl ⊢
  have hl : lv_has ls 4 [(0, .ref (z 0)), (1, .int x)] := hl
  refine lv_iconst (v := -1) hx hb dX1_nextChanged_0 (by decide) ?_
  refine lv_istore_n (lv' := [(2, .int (eP none)), (0, .ref (z 0)), (1, .int x)]) hx hb dX1_nextChanged_1 rfl hl (by decide) rfl (fun ls hl => ?_)
  refine lv_iconst (v := nI 0) hx hb dX1_nextChanged_2 (by decide) ?_
  refine lv_istore_n (lv' := [(3, .int (nI 0)), (2, .int (eP none)), (0, .ref (z 0)), (1, .int x)]) hx hb dX1_nextChanged_3 rfl hl (by decide) rfl (fun ls hl => ?_)
  have key4 : ∀ (d4 : Nat) (k : Nat) (hk : k ≤ 4), 4 - k < d4 → ∀  (ls : Array Slot), lv_has ls 4 [(3, .int (nI k)), (2, .int (eP (nxS ch x k))), (0, .ref (z 0)), (1, .int x)] → W p l e ({ frames := 0, cells := 0, slots := 0, locals := 0 } : Room) s m ([.ref (z 0), .int x] : List Value).toArray below meth c s.heap [] 0 0 (MQ below (rqI (eP (nxS ch x 4))) ([.ref (z 0), .int x] : List Value).toArray s 0 0 (fun _ => False)) (F0 m 4 ls []) := by
    intro d4
    induction d4 with
    | zero => intro k hk h9; exact absurd h9 (Nat.not_lt_zero _)
    | succ d4 ih4 =>
      intro k hk hm4  ls  hl
      refine lv_iload_n hx hb dX1_nextChanged_4 rfl (lv_at hl 0 rfl) ?_
      refine lv_iconst (v := nI 4) hx hb dX1_nextChanged_5 (by decide) ?_
      refine r_icmp_geN hx hb (x := k) (y := 4) (by first | omega | decide) (by first | omega | decide) (tgt := 47) dX1_nextChanged_6 (by decide) (fun c6 => ?_) (fun c6 => ?_)
      · refine lv_iload_n hx hb dX1_nextChanged_47 rfl (lv_at hl 1 rfl) ?_
        refine r_top (y := eP (nxS ch x 4)) (by rw [show k = 4 by omega]) ?_
        exact W.iret hx hb hr (fun t ht hW => ⟨_, rfl, rfl, ht⟩) (fun _ h => by cases h) dX1_nextChanged_48
      · refine lv_aload_n hx hb dX1_nextChanged_9 rfl (lv_at hl 2 rfl) ?_
        refine va_get (D := D) (ci := 1) (v := .ref (z 1)) (C := RX1) (T := TX1) (N := 5) hx hb hts (fun _ h => List.mem_cons_of_mem _ (List.mem_append_right _ h)) hown hK.1 hP 0 rfl rfl 3 (by decide) (hts (.fieldLink RX1 25 "RevisionStores$Store" "changes" "[I") (List.mem_of_getElem? (i := 1) rfl)) (fun _ h9 => h9) rfl dX1_nextChanged_10 ?_
        refine lv_iload_n hx hb dX1_nextChanged_13 rfl (lv_at hl 0 rfl) ?_
        refine r_iald (j := k) (v := ch k) hx hb hK.1 hP 1 0 rfl rfl (by omega) (by first | decide | omega) rfl dX1_nextChanged_14 ?_
        refine lv_iload_n hx hb dX1_nextChanged_15 rfl (lv_at hl 3 rfl) ?_
        refine lv_icmp_le (x := ch k) (y := x) (tgt := 41) hx hb dX1_nextChanged_16 (by decide) (fun c16 => ?_) (fun c16 => ?_)
        · refine lv_iinc (v := nI (k + 1)) (lv' := [(3, .int (nI (k + 1))), (2, .int (eP (nxS ch x k))), (0, .ref (z 0)), (1, .int x)]) hx hb dX1_nextChanged_41 hl (k := 0) rfl (nI_1 _) (by decide) rfl (fun ls hl => ?_)
          refine lv_goto (tgt := 4) hx hb dX1_nextChanged_44 (by decide) ?_
          have hl := lv_re (f := fun z9 => [(3, .int (nI (k + 1))), (2, .int z9), (0, .ref (z 0)), (1, .int x)]) hl (show eP (nxS ch x k) = eP (nxS ch x (k + 1)) from by show _ = eP (nxp ch x k (nxS ch x k)); simp [nxp, eP, c6, c16])
          exact ih4 (k + 1) (by first | assumption | omega) (by omega)  ls  (lv_sub hl [0, 1, 2, 3] rfl)
        · refine lv_iload_n hx hb dX1_nextChanged_19 rfl (lv_at hl 1 rfl) ?_
          refine lv_iconst (v := -1) hx hb dX1_nextChanged_20 (by decide) ?_
          refine r_icmp_eqP hx hb (x := nxS ch x k) (by intro j9 h9; have := nxS_lt _ _ _ _ h9; omega) (tgt := 39) dX1_nextChanged_21 (by decide) (fun c21 => ?_) (fun j21 c21 => ?_)
          · have hl := lv_re (f := fun z9 => [(3, .int (nI k)), (2, .int z9), (0, .ref (z 0)), (1, .int x)]) hl (show eP (nxS ch x k) = eP none from congrArg eP c21)
            refine lv_iload_n hx hb dX1_nextChanged_39 rfl (lv_at hl 0 rfl) ?_
            refine lv_istore_n (lv' := [(2, .int (nI k)), (3, .int (nI k)), (0, .ref (z 0)), (1, .int x)]) hx hb dX1_nextChanged_40 rfl hl (by decide) rfl (fun ls hl => ?_)
            refine lv_iinc (v := nI (k + 1)) (lv' := [(3, .int (nI (k + 1))), (2, .int (nI k)), (0, .ref (z 0)), (1, .int x)]) hx hb dX1_nextChanged_41 hl (k := 1) rfl (nI_1 _) (by decide) rfl (fun ls hl => ?_)
            refine lv_goto (tgt := 4) hx hb dX1_nextChanged_44 (by decide) ?_
            have hl := lv_re (f := fun z9 => [(3, .int (nI (k + 1))), (2, .int z9), (0, .ref (z 0)), (1, .int x)]) hl (show nI k = eP (nxS ch x (k + 1)) from by show _ = eP (nxp ch x k (nxS ch x k)); simp [nxp, eP, c6, c16, c21])
            exact ih4 (k + 1) (by first | assumption | omega) (by omega)  ls  (lv_sub hl [0, 1, 2, 3] rfl)
          · have hl := lv_re (f := fun z9 => [(3, .int (nI k)), (2, .int z9), (0, .ref (z 0)), (1, .int x)]) hl (show eP (nxS ch x k) = nI j21 from congrArg eP c21)
            have e24 := nxS_lt _ _ _ _ c21
            refine lv_aload_n hx hb dX1_nextChanged_24 rfl (lv_at hl 2 rfl) ?_
            refine va_get (D := D) (ci := 1) (v := .ref (z 1)) (C := RX1) (T := TX1) (N := 5) hx hb hts (fun _ h => List.mem_cons_of_mem _ (List.mem_append_right _ h)) hown hK.1 hP 0 rfl rfl 3 (by decide) (hts (.fieldLink RX1 25 "RevisionStores$Store" "changes" "[I") (List.mem_of_getElem? (i := 1) rfl)) (fun _ h9 => h9) rfl dX1_nextChanged_25 ?_
            refine lv_iload_n hx hb dX1_nextChanged_28 rfl (lv_at hl 0 rfl) ?_
            refine r_iald (j := k) (v := ch k) hx hb hK.1 hP 1 0 rfl rfl (by omega) (by first | decide | omega) rfl dX1_nextChanged_29 ?_
            refine lv_aload_n hx hb dX1_nextChanged_30 rfl (lv_at hl 2 rfl) ?_
            refine va_get (D := D) (ci := 1) (v := .ref (z 1)) (C := RX1) (T := TX1) (N := 5) hx hb hts (fun _ h => List.mem_cons_of_mem _ (List.mem_append_right _ h)) hown hK.1 hP 0 rfl rfl 3 (by decide) (hts (.fieldLink RX1 25 "RevisionStores$Store" "changes" "[I") (List.mem_of_getElem? (i := 1) rfl)) (fun _ h9 => h9) rfl dX1_nextChanged_31 ?_
            refine lv_iload_n hx hb dX1_nextChanged_34 rfl (lv_at hl 1 rfl) ?_
            refine r_iald (j := j21) (v := ch j21) hx hb hK.1 hP 1 0 rfl rfl (by omega) (by first | decide | omega) rfl dX1_nextChanged_35 ?_
            refine lv_icmp_ge (x := ch k) (y := ch j21) (tgt := 41) hx hb dX1_nextChanged_36 (by decide) (fun c36 => ?_) (fun c36 => ?_)
            · refine lv_iinc (v := nI (k + 1)) (lv' := [(3, .int (nI (k + 1))), (2, .int (nI j21)), (0, .ref (z 0)), (1, .int x)]) hx hb dX1_nextChanged_41 hl (k := 0) rfl (nI_1 _) (by decide) rfl (fun ls hl => ?_)
              refine lv_goto (tgt := 4) hx hb dX1_nextChanged_44 (by decide) ?_
              have hl := lv_re (f := fun z9 => [(3, .int (nI (k + 1))), (2, .int z9), (0, .ref (z 0)), (1, .int x)]) hl (show nI j21 = eP (nxS ch x (k + 1)) from by show _ = eP (nxp ch x k (nxS ch x k)); simp [nxp, eP, c6, c16, c21, c36])
              exact ih4 (k + 1) (by first | assumption | omega) (by omega)  ls  (lv_sub hl [0, 1, 2, 3] rfl)
            · refine lv_iload_n hx hb dX1_nextChanged_39 rfl (lv_at hl 0 rfl) ?_
              refine lv_istore_n (lv' := [(2, .int (nI k)), (3, .int (nI k)), (0, .ref (z 0)), (1, .int x)]) hx hb dX1_nextChanged_40 rfl hl (by decide) rfl (fun ls hl => ?_)
              refine lv_iinc (v := nI (k + 1)) (lv' := [(3, .int (nI (k + 1))), (2, .int (nI k)), (0, .ref (z 0)), (1, .int x)]) hx hb dX1_nextChanged_41 hl (k := 1) rfl (nI_1 _) (by decide) rfl (fun ls hl => ?_)
              refine lv_goto (tgt := 4) hx hb dX1_nextChanged_44 (by decide) ?_
              have hl := lv_re (f := fun z9 => [(3, .int (nI (k + 1))), (2, .int z9), (0, .ref (z 0)), (1, .int x)]) hl (show nI k = eP (nxS ch x (k + 1)) from by show _ = eP (nxp ch x k (nxS ch x k)); simp [nxp, eP, c6, c16, c21, c36])
              exact ih4 (k + 1) (by first | assumption | omega) (by omega)  ls  (lv_sub hl [0, 1, 2, 3] rfl)
  have hl := lv_re (f := fun z9 => [(3, .int (nI 0)), (2, .int z9), (0, .ref (z 0)), (1, .int x)]) hl (show eP none = eP (nxS ch x 0) from rfl)
  exact key4 ((4 - 0) + 1) 0 (by first | assumption | omega) (Nat.lt_succ_self _)  ls  (lv_sub hl [0, 1, 2, 3] rfl)
set_option maxHeartbeats 8000000 in
set_option maxRecDepth 100000 in
theorem cX1_countChanged_ok (l : Launch) (D : va_G) (ct : Nat → ClassId) (z : Nat → Nat) (dp : Int32) (lt : Int32) (ch : Nat → Int32) (ck : Nat → Int32) (h : Nat → Nat) (x : Int32)  : Met l yX1_countChanged wsX1_countChanged ({ frames := 0, cells := 0, slots := 0, locals := 0 } : Room) (roPc D ct [.ref (z 0), .int x] (wS ct z h dp lt ch ck)) (rqI (nI (fct (fun k => !decide (ch k ≤ x)) 4))) 0 0 (fun _ => False) := by
  refine Met.ofW (cc := cX1_countChanged) (maxL := 4) (ret := (some .int)) (by decide) rfl ?_
  intro p e s m args below meth c s₁ B hml hv
  obtain ⟨rfl, hP, hK⟩ := hv
  have hx := B.exec
  have hb := B.bytes
  have hr := B.returns
  have hts := atoms_spec (ws := wsX1_countChanged) B.pre
  have hown : s.vm.findClass RX1 = some m.cls := findClass_of_methodNamed B.named
  have hlocks := B.notSynchronized
  have hl := lv_entry ([.ref (z 0), .int x]) (n := 4) (Nat.le_of_ble_eq_true rfl)
  rw [lg_entry_eq]
  generalize (lg_sl ([.ref (z 0), .int x]) ++ List.replicate (4 - (lg_sl ([.ref (z 0), .int x])).length) Slot.unset).toArray = ls at hl ⊢
  have hl : lv_has ls 4 [(0, .ref (z 0)), (1, .int x)] := hl
  refine lv_iconst (v := nI 0) hx hb dX1_countChanged_0 (by decide) ?_
  refine lv_istore_n (lv' := [(2, .int (nI 0)), (0, .ref (z 0)), (1, .int x)]) hx hb dX1_countChanged_1 rfl hl (by decide) rfl (fun ls hl => ?_)
  refine lv_iconst (v := nI 0) hx hb dX1_countChanged_2 (by decide) ?_
  refine lv_istore_n (lv' := [(3, .int (nI 0)), (2, .int (nI 0)), (0, .ref (z 0)), (1, .int x)]) hx hb dX1_countChanged_3 rfl hl (by decide) rfl (fun ls hl => ?_)
  have key4 : ∀ (d4 : Nat) (k : Nat) (hk : k ≤ 4), 4 - k < d4 → ∀  (ls : Array Slot), lv_has ls 4 [(3, .int (nI k)), (2, .int (nI (fct (fun k => !decide (ch k ≤ x)) k))), (0, .ref (z 0)), (1, .int x)] → W p l e ({ frames := 0, cells := 0, slots := 0, locals := 0 } : Room) s m ([.ref (z 0), .int x] : List Value).toArray below meth c s.heap [] 0 0 (MQ below (rqI (nI (fct (fun k => !decide (ch k ≤ x)) 4))) ([.ref (z 0), .int x] : List Value).toArray s 0 0 (fun _ => False)) (F0 m 4 ls []) := by
    intro d4
    induction d4 with
    | zero => intro k hk h9; exact absurd h9 (Nat.not_lt_zero _)
    | succ d4 ih4 =>
      intro k hk hm4  ls  hl
      refine lv_iload_n hx hb dX1_countChanged_4 rfl (lv_at hl 0 rfl) ?_
      refine lv_iconst (v := nI 4) hx hb dX1_countChanged_5 (by decide) ?_
      refine r_icmp_geN hx hb (x := k) (y := 4) (by first | omega | decide) (by first | omega | decide) (tgt := 28) dX1_countChanged_6 (by decide) (fun c6 => ?_) (fun c6 => ?_)
      · refine lv_iload_n hx hb dX1_countChanged_28 rfl (lv_at hl 1 rfl) ?_
        refine r_top (y := nI (fct (fun k => !decide (ch k ≤ x)) 4)) (by rw [show k = 4 by omega]) ?_
        exact W.iret hx hb hr (fun t ht hW => ⟨_, rfl, rfl, ht⟩) (fun _ h => by cases h) dX1_countChanged_29
      · refine lv_aload_n hx hb dX1_countChanged_9 rfl (lv_at hl 2 rfl) ?_
        refine va_get (D := D) (ci := 1) (v := .ref (z 1)) (C := RX1) (T := TX1) (N := 5) hx hb hts (fun _ h => List.mem_cons_of_mem _ (List.mem_append_right _ h)) hown hK.1 hP 0 rfl rfl 3 (by decide) (hts (.fieldLink RX1 25 "RevisionStores$Store" "changes" "[I") (List.mem_of_getElem? (i := 1) rfl)) (fun _ h9 => h9) rfl dX1_countChanged_10 ?_
        refine lv_iload_n hx hb dX1_countChanged_13 rfl (lv_at hl 0 rfl) ?_
        refine r_iald (j := k) (v := ch k) hx hb hK.1 hP 1 0 rfl rfl (by omega) (by first | decide | omega) rfl dX1_countChanged_14 ?_
        refine lv_iload_n hx hb dX1_countChanged_15 rfl (lv_at hl 3 rfl) ?_
        refine lv_icmp_le (x := ch k) (y := x) (tgt := 22) hx hb dX1_countChanged_16 (by decide) (fun c16 => ?_) (fun c16 => ?_)
        · refine lv_iinc (v := nI (k + 1)) (lv' := [(3, .int (nI (k + 1))), (2, .int (nI (fct (fun k => !decide (ch k ≤ x)) k))), (0, .ref (z 0)), (1, .int x)]) hx hb dX1_countChanged_22 hl (k := 0) rfl (nI_1 _) (by decide) rfl (fun ls hl => ?_)
          refine lv_goto (tgt := 4) hx hb dX1_countChanged_25 (by decide) ?_
          have hl := lv_re (f := fun z9 => [(3, .int (nI (k + 1))), (2, .int z9), (0, .ref (z 0)), (1, .int x)]) hl (show nI (fct (fun k => !decide (ch k ≤ x)) k) = nI (fct (fun (k + 1) => !decide (ch (k + 1) ≤ x)) (k + 1)) from by simp [fct, c6, c16])
          exact ih4 (k + 1) (by first | assumption | omega) (by omega)  ls  (lv_sub hl [0, 1, 2, 3] rfl)
        · refine lv_iinc (v := nI (fct (fun k => !decide (ch k ≤ x)) k + 1)) (lv' := [(2, .int (nI (fct (fun k => !decide (ch k ≤ x)) k + 1))), (3, .int (nI k)), (0, .ref (z 0)), (1, .int x)]) hx hb dX1_countChanged_19 hl (k := 1) rfl (nI_1 _) (by decide) rfl (fun ls hl => ?_)
          refine lv_iinc (v := nI (k + 1)) (lv' := [(3, .int (nI (k + 1))), (2, .int (nI (fct (fun k => !decide (ch k ≤ x)) k + 1))), (0, .ref (z 0)), (1, .int x)]) hx hb dX1_countChanged_22 hl (k := 1) rfl (nI_1 _) (by decide) rfl (fun ls hl => ?_)
          refine lv_goto (tgt := 4) hx hb dX1_countChanged_25 (by decide) ?_
          have hl := lv_re (f := fun z9 => [(3, .int (nI (k + 1))), (2, .int z9), (0, .ref (z 0)), (1, .int x)]) hl (show nI (fct (fun k => !decide (ch k ≤ x)) k + 1) = nI (fct (fun (k + 1) => !decide (ch (k + 1) ≤ x)) (k + 1)) from by simp [fct, c6, c16])
          exact ih4 (k + 1) (by first | assumption | omega) (by omega)  ls  (lv_sub hl [0, 1, 2, 3] rfl)
  exact key4 ((4 - 0) + 1) 0 (by first | assumption | omega) (Nat.lt_succ_self _)  ls  (lv_sub hl [0, 1, 2, 3] rfl)
set_option maxHeartbeats 8000000 in
set_option maxRecDepth 100000 in
theorem cX1_noteChange_ok (l : Launch) (D : va_G) (ct : Nat → ClassId) (z : Nat → Nat) (dp : Int32) (lt : Int32) (ch : Nat → Int32) (ck : Nat → Int32) (h : Nat → Nat) (hd : Nat → Bool) (nl : Nat → Nat) (wi : Nat → Option Nat) (a : Nat → Nat) (n : Nat) (dc : Nat → Nat) (pa : Nat → Option Nat) (va : Nat → Int32) (dl : Nat → Bool) (ge : Nat → Nat) (su : Nat → Int32) (d : Nat) (hn : n ≤ 150) (hTd : ∀ k, dc k < 4) (hTg : ∀ k, ge k ≤ 150) (hTp : ∀ k j, k < n → pa k = some j → j < k) (hd4 : d < 4) (sz : Nat) : Met l yX1_noteChange wsX1_noteChange ({ frames := 4, cells := 0, slots := 0, locals := 87 } : Room) (wrPc D ct [.ref (z 0), .ref (a 0), .int (nI d)] (wS ct z h dp lt ch ck ++ wH ct h hd nl wi ++ wT ct a n dc pa va dl ge su) sz) (wqV D (wS ct z h dp (lt + nI 1) (va_up ch d (lt + nI 1)) ck ++ wH ct h (stm hd (flS pa ge hd n n) ge dp n) (flS pa ge hd n n) (fwS dc dl ge su (ends hd (flS pa ge hd n n)) n) ++ wT ct a n dc pa va dl ge su) (va_A (wS ct z h dp lt ch ck ++ wH ct h hd nl wi ++ wT ct a n dc pa va dl ge su) sz)) 0 0 (va_A (wS ct z h dp lt ch ck ++ wH ct h hd nl wi ++ wT ct a n dc pa va dl ge su) sz) := by
  refine Met.ofW (cc := cX1_noteChange) (maxL := 3) (ret := none) (by decide) rfl ?_
  intro p e s m args below meth c s₁ B hml hv
  obtain ⟨rfl, hsz, hP, hK, hD0⟩ := hv
  have hx := B.exec
  have hb := B.bytes
  have hr := B.returns
  have hts := atoms_spec (ws := wsX1_noteChange) B.pre
  have hown : s.vm.findClass RX1 = some m.cls := findClass_of_methodNamed B.named
  have hlocks := B.notSynchronized
  subst hsz
  have hD := hD0.self (sz := s.heap.size)
  generalize hAe : va_A (wS ct z h dp lt ch ck ++ wH ct h hd nl wi ++ wT ct a n dc pa va dl ge su) s.heap.size = A at hD ⊢
  have hA : ∀ q : Nat, s.heap.size ≤ q → A q := fun q h => by rw [← hAe]; exact Or.inr h
  have hS : va_S A s.heap s.heap [] := va_S.rf
  have hP : va_P D vwCl (wS ct z h dp lt ch ck ++ wH ct h hd nl wi ++ wT ct a n dc pa va dl ge su) s.heap := hP
  clear hAe hD0
  have hl := lv_entry ([.ref (z 0), .ref (a 0), .int (nI d)]) (n := 3) (Nat.le_of_ble_eq_true rfl)
  rw [lg_entry_eq]
  generalize (lg_sl ([.ref (z 0), .ref (a 0), .int (nI d)]) ++ List.replicate (3 - (lg_sl ([.ref (z 0), .ref (a 0), .int (nI d)])).length) Slot.unset).toArray = ls at hl ⊢
  have hl : lv_has ls 3 [(0, .ref (z 0)), (1, .ref (a 0)), (2, .int (nI d))] := hl
  have hH0 : s.heap.size ≤ s.heap.size := Nat.le_refl _
  refine lv_aload_n hx hb dX1_noteChange_0 rfl (lv_at hl 0 rfl) ?_
  refine lv_dup hx hb dX1_noteChange_1 rfl ?_
  refine va_get (D := D) (ci := 1) (v := .int lt) (C := RX1) (T := TX1) (N := 5) hx hb hts (fun _ h => List.mem_cons_of_mem _ (List.mem_append_left _ (List.mem_append_left _ (List.mem_append_right _ h)))) hown hK.1 hP 0 rfl rfl 2 (by decide) (hts (.fieldLink RX1 22 "RevisionStores$Store" "latest" "I") (List.mem_of_getElem? (i := 1) rfl)) (fun _ h9 => h9) rfl dX1_noteChange_2 ?_
  refine lv_iconst (v := nI 1) hx hb dX1_noteChange_5 (by decide) ?_
  refine lv_iadd hx hb dX1_noteChange_6 ?_
  refine va_put (D := D) (ci := 1) (v := .int (lt + (nI 1))) (ty := .int) (C := RX1) (T := TX1) (N := 5) hx hb hts (fun _ h => List.mem_cons_of_mem _ (List.mem_append_left _ (List.mem_append_left _ (List.mem_append_right _ h)))) tyX1 tyX1_ok nmX1 hown hK.1 hP hD hS 0 rfl rfl 2 (by decide) (hts (.fieldLink RX1 22 "RevisionStores$Store" "latest" "I") (List.mem_of_getElem? (i := 1) rfl)) (fun _ h9 => h9) rfl (by decide +kernel) rfl rfl (Nat.le_of_ble_eq_true rfl) dX1_noteChange_7 (fun H locs hP hD hS => ?_)
  have hP : va_P D vwCl (wS ct z h dp (lt + (nI 1)) ch ck ++ wH ct h hd nl wi ++ wT ct a n dc pa va dl ge su) H := hP
  have hD : va_D A (wS ct z h dp (lt + (nI 1)) ch ck ++ wH ct h hd nl wi ++ wT ct a n dc pa va dl ge su) := hD
  refine lv_aload_n hx hb dX1_noteChange_10 rfl (lv_at hl 0 rfl) ?_
  refine va_get (D := D) (ci := 1) (v := .ref (z 1)) (C := RX1) (T := TX1) (N := 5) hx hb hts (fun _ h => List.mem_cons_of_mem _ (List.mem_append_left _ (List.mem_append_left _ (List.mem_append_right _ h)))) hown hK.1 hP 0 rfl rfl 3 (by decide) (hts (.fieldLink RX1 25 "RevisionStores$Store" "changes" "[I") (List.mem_of_getElem? (i := 2) rfl)) (fun _ h9 => h9) rfl dX1_noteChange_11 ?_
  refine lv_iload_n hx hb dX1_noteChange_14 rfl (lv_at hl 2 rfl) ?_
  refine lv_aload_n hx hb dX1_noteChange_15 rfl (lv_at hl 0 rfl) ?_
  refine va_get (D := D) (ci := 1) (v := .int (lt + (nI 1))) (C := RX1) (T := TX1) (N := 5) hx hb hts (fun _ h => List.mem_cons_of_mem _ (List.mem_append_left _ (List.mem_append_left _ (List.mem_append_right _ h)))) hown hK.1 hP 0 rfl rfl 2 (by decide) (hts (.fieldLink RX1 22 "RevisionStores$Store" "latest" "I") (List.mem_of_getElem? (i := 1) rfl)) (fun _ h9 => h9) rfl dX1_noteChange_16 ?_
  refine r_iast (j := d) (x := (lt + (nI 1))) (f' := va_up ch d (lt + (nI 1))) hx hb hK.1 hP hD hS 1 0 rfl rfl (by omega) (by first | decide | omega) (up_i _ _ _) dX1_noteChange_19 (fun H locs hP hD hS => ?_)
  have hP : va_P D vwCl (wS ct z h dp (lt + (nI 1)) (va_up ch d (lt + (nI 1))) ck ++ wH ct h hd nl wi ++ wT ct a n dc pa va dl ge su) H := hP
  have hD : va_D A (wS ct z h dp (lt + (nI 1)) (va_up ch d (lt + (nI 1))) ck ++ wH ct h hd nl wi ++ wT ct a n dc pa va dl ge su) := hD
  refine lv_aload_n hx hb dX1_noteChange_20 rfl (lv_at hl 0 rfl) ?_
  refine va_get (D := D) (ci := 1) (v := .ref (h 0)) (C := RX1) (T := TX1) (N := 5) hx hb hts (fun _ h => List.mem_cons_of_mem _ (List.mem_append_left _ (List.mem_append_left _ (List.mem_append_right _ h)))) hown hK.1 hP 0 rfl rfl 0 (by decide) (hts (.fieldLink RX1 12 "RevisionStores$Store" "holding" "LRevisionStores$Holding;") (List.mem_of_getElem? (i := 3) rfl)) (fun _ h9 => h9) rfl dX1_noteChange_21 ?_
  refine lv_aload_n hx hb dX1_noteChange_24 rfl (lv_at hl 1 rfl) ?_
  refine r_wVv (As := [.ref (a 0)]) (rest := []) ⟨hx, hb, hml, hown, hts⟩ (cX0_survey_ok l D ct h hd nl wi a n dc pa va dl ge su (by first | assumption | omega) (by first | assumption | omega) (by first | assumption | omega) (by first | assumption | omega) H.size) (cwV 1 hts gX1_noteChange_X0_survey rfl rfl rfl (by decide +kernel) ⟨Nat.le_of_ble_eq_true rfl, Nat.le_of_ble_eq_true rfl⟩) hK hP hD hS hA [3, 4, 5, 6, 7, 8, 9, 10, 11, 12, 13] rfl rfl rfl 0 0 rfl rfl rfl hl.1 rfl (Nat.le_of_ble_eq_true rfl) dX1_noteChange_25 ⟨Nat.le_of_ble_eq_true rfl, Nat.le_of_ble_eq_true rfl⟩ (fun H locs hP hD hS => ?_)
  have hP : va_P D vwCl (wS ct z h dp (lt + (nI 1)) (va_up ch d (lt + (nI 1))) ck ++ wH ct h hd (flS pa ge hd n n) (fwS dc dl ge su (ends hd (flS pa ge hd n n)) n) ++ wT ct a n dc pa va dl ge su) H := hP
  have hD : va_D A (wS ct z h dp (lt + (nI 1)) (va_up ch d (lt + (nI 1))) ck ++ wH ct h hd (flS pa ge hd n n) (fwS dc dl ge su (ends hd (flS pa ge hd n n)) n) ++ wT ct a n dc pa va dl ge su) := hD
  refine lv_aload_n hx hb dX1_noteChange_28 rfl (lv_at hl 0 rfl) ?_
  refine va_get (D := D) (ci := 1) (v := .ref (h 0)) (C := RX1) (T := TX1) (N := 5) hx hb hts (fun _ h => List.mem_cons_of_mem _ (List.mem_append_left _ (List.mem_append_left _ (List.mem_append_right _ h)))) hown hK.1 hP 0 rfl rfl 0 (by decide) (hts (.fieldLink RX1 12 "RevisionStores$Store" "holding" "LRevisionStores$Holding;") (List.mem_of_getElem? (i := 3) rfl)) (fun _ h9 => h9) rfl dX1_noteChange_29 ?_
  refine lv_aload_n hx hb dX1_noteChange_32 rfl (lv_at hl 1 rfl) ?_
  refine lv_aload_n hx hb dX1_noteChange_33 rfl (lv_at hl 0 rfl) ?_
  refine va_get (D := D) (ci := 1) (v := .int dp) (C := RX1) (T := TX1) (N := 5) hx hb hts (fun _ h => List.mem_cons_of_mem _ (List.mem_append_left _ (List.mem_append_left _ (List.mem_append_right _ h)))) hown hK.1 hP 0 rfl rfl 1 (by decide) (hts (.fieldLink RX1 18 "RevisionStores$Store" "depth" "I") (List.mem_of_getElem? (i := 4) rfl)) (fun _ h9 => h9) rfl dX1_noteChange_34 ?_
  refine r_wVi (As := [.ref (a 0), .int dp]) (rest := []) ⟨hx, hb, hml, hown, hts⟩ (cX0_stem_ok l D ct h hd (flS pa ge hd n n) (fwS dc dl ge su (ends hd (flS pa ge hd n n)) n) a n dc pa va dl ge su dp (by first | assumption | omega) (by first | assumption | omega) (fun k => flS_le _ k) H.size) (cwV 2 hts gX1_noteChange_X0_stem rfl rfl rfl (by decide +kernel) ⟨Nat.le_of_ble_eq_true rfl, Nat.le_of_ble_eq_true rfl⟩) hK hP hD hS hA [3, 4, 5, 6, 7, 8, 9, 10, 11, 12, 13] rfl rfl rfl 0 0 rfl rfl rfl hl.1 rfl (Nat.le_of_ble_eq_true rfl) dX1_noteChange_37 ⟨Nat.le_of_ble_eq_true rfl, Nat.le_of_ble_eq_true rfl⟩ (fun H locs hP hD hS => ?_)
  have hP : va_P D vwCl (wS ct z h dp (lt + (nI 1)) (va_up ch d (lt + (nI 1))) ck ++ wH ct h (stm hd (flS pa ge hd n n) ge dp n) (flS pa ge hd n n) (fwS dc dl ge su (ends hd (flS pa ge hd n n)) n) ++ wT ct a n dc pa va dl ge su) H := hP
  have hD : va_D A (wS ct z h dp (lt + (nI 1)) (va_up ch d (lt + (nI 1))) ck ++ wH ct h (stm hd (flS pa ge hd n n) ge dp n) (flS pa ge hd n n) (fwS dc dl ge su (ends hd (flS pa ge hd n n)) n) ++ wT ct a n dc pa va dl ge su) := hD
  refine lv_pop hx hb dX1_noteChange_40 rfl ?_
  have hP : va_P D vwCl (wS ct z h dp (lt + nI 1) (va_up ch d (lt + nI 1)) ck ++ wH ct h (stm hd (flS pa ge hd n n) ge dp n) (flS pa ge hd n n) (fwS dc dl ge su (ends hd (flS pa ge hd n n)) n) ++ wT ct a n dc pa va dl ge su) H := hP
  exact W.vret hx hb hr (fun t ht hW => ⟨⟨(), rfl, trivial, by rw [ht]; exact hP⟩, hS.F ht⟩) hS.2.2 dX1_noteChange_41
set_option maxHeartbeats 8000000 in
set_option maxRecDepth 100000 in
theorem cX1_append_ok (l : Launch) (D : va_G) (ct : Nat → ClassId) (z : Nat → Nat) (dp : Int32) (lt : Int32) (ch : Nat → Int32) (ck : Nat → Int32) (h : Nat → Nat) (hd : Nat → Bool) (nl : Nat → Nat) (wi : Nat → Option Nat) (a : Nat → Nat) (n : Nat) (dc : Nat → Nat) (pa : Nat → Option Nat) (va : Nat → Int32) (dl : Nat → Bool) (ge : Nat → Nat) (su : Nat → Int32) (k : Nat) (hn : n ≤ 150) (hTd : ∀ k, dc k < 4) (hTg : ∀ k, ge k ≤ 150) (hTp : ∀ k j, k < n → pa k = some j → j < k) (hk : k < n) (sz : Nat) : Met l yX1_append wsX1_append ({ frames := 5, cells := 0, slots := 0, locals := 109 } : Room) (wrPc D ct [.ref (z 0), .ref (a 0), .int (nI k)] (wS ct z h dp lt ch ck ++ wH ct h hd nl wi ++ wT ct a n dc pa va dl ge su) sz) (wqV D (wS ct z h dp (lt + nI 1) (va_up ch (dc k) (lt + nI 1)) ck ++ wH ct h (stm (va_up hd k true) (flS pa ge (va_up hd k true) n n) ge dp n) (flS pa ge (va_up hd k true) n n) (fwS dc dl ge su (ends (va_up hd k true) (flS pa ge (va_up hd k true) n n)) n) ++ wT ct a n dc pa va dl ge su) (va_A (wS ct z h dp lt ch ck ++ wH ct h hd nl wi ++ wT ct a n dc pa va dl ge su) sz)) 0 0 (va_A (wS ct z h dp lt ch ck ++ wH ct h hd nl wi ++ wT ct a n dc pa va dl ge su) sz) := by
  refine Met.ofW (cc := cX1_append) (maxL := 3) (ret := none) (by decide) rfl ?_
  intro p e s m args below meth c s₁ B hml hv
  obtain ⟨rfl, hsz, hP, hK, hD0⟩ := hv
  have hx := B.exec
  have hb := B.bytes
  have hr := B.returns
  have hts := atoms_spec (ws := wsX1_append) B.pre
  have hown : s.vm.findClass RX1 = some m.cls := findClass_of_methodNamed B.named
  have hlocks := B.notSynchronized
  subst hsz
  have hD := hD0.self (sz := s.heap.size)
  generalize hAe : va_A (wS ct z h dp lt ch ck ++ wH ct h hd nl wi ++ wT ct a n dc pa va dl ge su) s.heap.size = A at hD ⊢
  have hA : ∀ q : Nat, s.heap.size ≤ q → A q := fun q h => by rw [← hAe]; exact Or.inr h
  have hS : va_S A s.heap s.heap [] := va_S.rf
  have hP : va_P D vwCl (wS ct z h dp lt ch ck ++ wH ct h hd nl wi ++ wT ct a n dc pa va dl ge su) s.heap := hP
  clear hAe hD0
  have hl := lv_entry ([.ref (z 0), .ref (a 0), .int (nI k)]) (n := 3) (Nat.le_of_ble_eq_true rfl)
  rw [lg_entry_eq]
  generalize (lg_sl ([.ref (z 0), .ref (a 0), .int (nI k)]) ++ List.replicate (3 - (lg_sl ([.ref (z 0), .ref (a 0), .int (nI k)])).length) Slot.unset).toArray = ls at hl ⊢
  have hl : lv_has ls 3 [(0, .ref (z 0)), (1, .ref (a 0)), (2, .int (nI k))] := hl
  have hH0 : s.heap.size ≤ s.heap.size := Nat.le_refl _
  refine lv_aload_n hx hb dX1_append_0 rfl (lv_at hl 0 rfl) ?_
  refine va_get (D := D) (ci := 1) (v := .ref (h 0)) (C := RX1) (T := TX1) (N := 5) hx hb hts (fun _ h => List.mem_cons_of_mem _ (List.mem_append_left _ (List.mem_append_left _ (List.mem_append_right _ h)))) hown hK.1 hP 0 rfl rfl 0 (by decide) (hts (.fieldLink RX1 12 "RevisionStores$Store" "holding" "LRevisionStores$Holding;") (List.mem_of_getElem? (i := 1) rfl)) (fun _ h9 => h9) rfl dX1_append_1 ?_
  refine va_getN (D := D) (ci := 0) (v := .ref (h 1)) (C := RX0) (T := TX0) (N := 3) hx hb hts (fun _ h => List.mem_cons_of_mem _ (List.mem_append_left _ (List.mem_append_right _ h))) hown hK.1 hP 3 rfl rfl 0 (by decide) (va_Nw.use rfl (hK.2 _ (List.mem_of_getElem? (i := 22) rfl))) (fun _ h9 => h9) rfl dX1_append_4 ?_
  refine lv_iload_n hx hb dX1_append_7 rfl (lv_at hl 2 rfl) ?_
  refine lv_iconst (v := nI 1) hx hb dX1_append_8 (by decide) ?_
  refine r_zast (j := k) (x := true) (f' := fun k => bI ((va_up hd k true) k)) hx hb hK.1 hP hD hS 4 1 rfl rfl (by omega) (by first | decide | omega) (up_b _ _ _) dX1_append_9 (fun H locs hP hD hS => ?_)
  have hP : va_P D vwCl (wS ct z h dp lt ch ck ++ wH ct h (va_up hd k true) nl wi ++ wT ct a n dc pa va dl ge su) H := hP
  have hD : va_D A (wS ct z h dp lt ch ck ++ wH ct h (va_up hd k true) nl wi ++ wT ct a n dc pa va dl ge su) := hD
  refine lv_aload_n hx hb dX1_append_10 rfl (lv_at hl 0 rfl) ?_
  refine lv_aload_n hx hb dX1_append_11 rfl (lv_at hl 1 rfl) ?_
  refine lv_aload_n hx hb dX1_append_12 rfl (lv_at hl 1 rfl) ?_
  refine va_getN (D := D) (ci := 2) (v := .ref (a 1)) (C := RX2) (T := TX2) (N := 7) hx hb hts (fun _ h => List.mem_cons_of_mem _ (List.mem_append_right _ h)) hown hK.1 hP 7 rfl rfl 0 (by decide) (va_Nw.use rfl (hK.2 _ (List.mem_of_getElem? (i := 23) rfl))) (fun _ h9 => h9) rfl dX1_append_13 ?_
  refine lv_iload_n hx hb dX1_append_16 rfl (lv_at hl 2 rfl) ?_
  refine r_iald (j := k) (v := nI (dc k)) hx hb hK.1 hP 8 0 rfl rfl (by omega) (by first | decide | omega) rfl dX1_append_17 ?_
  refine r_wVv (As := [.ref (a 0), .int (nI (dc k))]) (rest := []) ⟨hx, hb, hml, hown, hts⟩ (cX1_noteChange_ok l D ct z dp lt ch ck h (va_up hd k true) nl wi a n dc pa va dl ge su (dc k) (by first | assumption | omega) (by first | assumption | omega) (by first | assumption | omega) (by first | assumption | omega) (hTd _) s.heap.size) (cwV 2 hts gX1_append_X1_noteChange rfl rfl rfl (by decide +kernel) ⟨Nat.le_of_ble_eq_true rfl, Nat.le_of_ble_eq_true rfl⟩) hK hP hD hS hA [0, 1, 2, 3, 4, 5, 6, 7, 8, 9, 10, 11, 12, 13] rfl rfl rfl 0 1 rfl rfl rfl hl.1 rfl (Nat.le_of_ble_eq_true rfl) dX1_append_18 ⟨Nat.le_of_ble_eq_true rfl, Nat.le_of_ble_eq_true rfl⟩ (fun H locs hP hD hS => ?_)
  have hP : va_P D vwCl (wS ct z h dp (lt + nI 1) (va_up ch (dc k) (lt + nI 1)) ck ++ wH ct h (stm (va_up hd k true) (flS pa ge (va_up hd k true) n n) ge dp n) (flS pa ge (va_up hd k true) n n) (fwS dc dl ge su (ends (va_up hd k true) (flS pa ge (va_up hd k true) n n)) n) ++ wT ct a n dc pa va dl ge su) H := hP
  have hD : va_D A (wS ct z h dp (lt + nI 1) (va_up ch (dc k) (lt + nI 1)) ck ++ wH ct h (stm (va_up hd k true) (flS pa ge (va_up hd k true) n n) ge dp n) (flS pa ge (va_up hd k true) n n) (fwS dc dl ge su (ends (va_up hd k true) (flS pa ge (va_up hd k true) n n)) n) ++ wT ct a n dc pa va dl ge su) := hD
  exact W.vret hx hb hr (fun t ht hW => ⟨⟨(), rfl, trivial, by rw [ht]; exact hP⟩, hS.F ht⟩) hS.2.2 dX1_append_21
set_option maxHeartbeats 8000000 in
set_option maxRecDepth 100000 in
theorem cX1_clear_ok (l : Launch) (D : va_G) (ct : Nat → ClassId) (z : Nat → Nat) (dp : Int32) (lt : Int32) (ch : Nat → Int32) (ck : Nat → Int32) (h : Nat → Nat) (hd : Nat → Bool) (nl : Nat → Nat) (wi : Nat → Option Nat) (a : Nat → Nat) (n : Nat) (dc : Nat → Nat) (pa : Nat → Option Nat) (va : Nat → Int32) (dl : Nat → Bool) (ge : Nat → Nat) (su : Nat → Int32) (hn : n ≤ 150) (hTd : ∀ k, dc k < 4) (hTg : ∀ k, ge k ≤ 150) (hTp : ∀ k j, k < n → pa k = some j → j < k) (sz : Nat) : Met l yX1_clear wsX1_clear ({ frames := 4, cells := 0, slots := 0, locals := 87 } : Room) (wrPc D ct [.ref (z 0), .ref (a 0)] (wS ct z h dp lt ch ck ++ wH ct h hd nl wi ++ wT ct a n dc pa va dl ge su) sz) (wqV D (wS ct z h dp (nI 0) (fun _ => nI 0) (fun _ => nI 0) ++ wH ct h (rem hd 150) (flS pa ge (rem hd 150) n n) (fwS dc dl ge su (ends (rem hd 150) (flS pa ge (rem hd 150) n n)) n) ++ wT ct a n dc pa va dl ge su) (va_A (wS ct z h dp lt ch ck ++ wH ct h hd nl wi ++ wT ct a n dc pa va dl ge su) sz)) 0 0 (va_A (wS ct z h dp lt ch ck ++ wH ct h hd nl wi ++ wT ct a n dc pa va dl ge su) sz) := by
  refine Met.ofW (cc := cX1_clear) (maxL := 2) (ret := none) (by decide) rfl ?_
  intro p e s m args below meth c s₁ B hml hv
  obtain ⟨rfl, hsz, hP, hK, hD0⟩ := hv
  have hx := B.exec
  have hb := B.bytes
  have hr := B.returns
  have hts := atoms_spec (ws := wsX1_clear) B.pre
  have hown : s.vm.findClass RX1 = some m.cls := findClass_of_methodNamed B.named
  have hlocks := B.notSynchronized
  subst hsz
  have hD := hD0.self (sz := s.heap.size)
  generalize hAe : va_A (wS ct z h dp lt ch ck ++ wH ct h hd nl wi ++ wT ct a n dc pa va dl ge su) s.heap.size = A at hD ⊢
  have hA : ∀ q : Nat, s.heap.size ≤ q → A q := fun q h => by rw [← hAe]; exact Or.inr h
  have hS : va_S A s.heap s.heap [] := va_S.rf
  have hP : va_P D vwCl (wS ct z h dp lt ch ck ++ wH ct h hd nl wi ++ wT ct a n dc pa va dl ge su) s.heap := hP
  clear hAe hD0
  have hl := lv_entry ([.ref (z 0), .ref (a 0)]) (n := 2) (Nat.le_of_ble_eq_true rfl)
  rw [lg_entry_eq]
  generalize (lg_sl ([.ref (z 0), .ref (a 0)]) ++ List.replicate (2 - (lg_sl ([.ref (z 0), .ref (a 0)])).length) Slot.unset).toArray = ls at hl ⊢
  have hl : lv_has ls 2 [(0, .ref (z 0)), (1, .ref (a 0))] := hl
  have hH0 : s.heap.size ≤ s.heap.size := Nat.le_refl _
  refine lv_aload_n hx hb dX1_clear_0 rfl (lv_at hl 0 rfl) ?_
  refine va_get (D := D) (ci := 1) (v := .ref (h 0)) (C := RX1) (T := TX1) (N := 5) hx hb hts (fun _ h => List.mem_cons_of_mem _ (List.mem_append_left _ (List.mem_append_left _ (List.mem_append_right _ h)))) hown hK.1 hP 0 rfl rfl 0 (by decide) (hts (.fieldLink RX1 12 "RevisionStores$Store" "holding" "LRevisionStores$Holding;") (List.mem_of_getElem? (i := 1) rfl)) (fun _ h9 => h9) rfl dX1_clear_1 ?_
  refine r_wVv (As := []) (rest := []) ⟨hx, hb, hml, hown, hts⟩ (cX0_removeAll_ok l D ct h hd nl wi  s.heap.size) (cwV 0 hts gX1_clear_X0_removeAll rfl rfl rfl (by decide +kernel) ⟨Nat.le_of_ble_eq_true rfl, Nat.le_of_ble_eq_true rfl⟩) hK hP hD hS hA [3, 4, 5, 6] rfl rfl rfl 0 0 rfl rfl rfl hl.1 rfl (Nat.le_of_ble_eq_true rfl) dX1_clear_4 ⟨Nat.le_of_ble_eq_true rfl, Nat.le_of_ble_eq_true rfl⟩ (fun H locs hP hD hS => ?_)
  have hP : va_P D vwCl (wS ct z h dp lt ch ck ++ wH ct h (rem hd 150) nl wi ++ wT ct a n dc pa va dl ge su) H := hP
  have hD : va_D A (wS ct z h dp lt ch ck ++ wH ct h (rem hd 150) nl wi ++ wT ct a n dc pa va dl ge su) := hD
  refine lv_aload_n hx hb dX1_clear_7 rfl (lv_at hl 0 rfl) ?_
  refine va_get (D := D) (ci := 1) (v := .ref (h 0)) (C := RX1) (T := TX1) (N := 5) hx hb hts (fun _ h => List.mem_cons_of_mem _ (List.mem_append_left _ (List.mem_append_left _ (List.mem_append_right _ h)))) hown hK.1 hP 0 rfl rfl 0 (by decide) (hts (.fieldLink RX1 12 "RevisionStores$Store" "holding" "LRevisionStores$Holding;") (List.mem_of_getElem? (i := 1) rfl)) (fun _ h9 => h9) rfl dX1_clear_8 ?_
  refine lv_aload_n hx hb dX1_clear_11 rfl (lv_at hl 1 rfl) ?_
  refine r_wVv (As := [.ref (a 0)]) (rest := []) ⟨hx, hb, hml, hown, hts⟩ (cX0_survey_ok l D ct h (rem hd 150) nl wi a n dc pa va dl ge su (by first | assumption | omega) (by first | assumption | omega) (by first | assumption | omega) (by first | assumption | omega) H.size) (cwV 1 hts gX1_clear_X0_survey rfl rfl rfl (by decide +kernel) ⟨Nat.le_of_ble_eq_true rfl, Nat.le_of_ble_eq_true rfl⟩) hK hP hD hS hA [3, 4, 5, 6, 7, 8, 9, 10, 11, 12, 13] rfl rfl rfl 0 0 rfl rfl rfl hl.1 rfl (Nat.le_of_ble_eq_true rfl) dX1_clear_12 ⟨Nat.le_of_ble_eq_true rfl, Nat.le_of_ble_eq_true rfl⟩ (fun H locs hP hD hS => ?_)
  have hP : va_P D vwCl (wS ct z h dp lt ch ck ++ wH ct h (rem hd 150) (flS pa ge (rem hd 150) n n) (fwS dc dl ge su (ends (rem hd 150) (flS pa ge (rem hd 150) n n)) n) ++ wT ct a n dc pa va dl ge su) H := hP
  have hD : va_D A (wS ct z h dp lt ch ck ++ wH ct h (rem hd 150) (flS pa ge (rem hd 150) n n) (fwS dc dl ge su (ends (rem hd 150) (flS pa ge (rem hd 150) n n)) n) ++ wT ct a n dc pa va dl ge su) := hD
  refine lv_aload_n hx hb dX1_clear_15 rfl (lv_at hl 0 rfl) ?_
  refine lv_iconst (v := nI 0) hx hb dX1_clear_16 (by decide) ?_
  refine va_put (D := D) (ci := 1) (v := .int (nI 0)) (ty := .int) (C := RX1) (T := TX1) (N := 5) hx hb hts (fun _ h => List.mem_cons_of_mem _ (List.mem_append_left _ (List.mem_append_left _ (List.mem_append_right _ h)))) tyX1 tyX1_ok nmX1 hown hK.1 hP hD hS 0 rfl rfl 2 (by decide) (hts (.fieldLink RX1 22 "RevisionStores$Store" "latest" "I") (List.mem_of_getElem? (i := 2) rfl)) (fun _ h9 => h9) rfl (by decide +kernel) rfl rfl (Nat.le_of_ble_eq_true rfl) dX1_clear_17 (fun H locs hP hD hS => ?_)
  have hP : va_P D vwCl (wS ct z h dp (nI 0) ch ck ++ wH ct h (rem hd 150) (flS pa ge (rem hd 150) n n) (fwS dc dl ge su (ends (rem hd 150) (flS pa ge (rem hd 150) n n)) n) ++ wT ct a n dc pa va dl ge su) H := hP
  have hD : va_D A (wS ct z h dp (nI 0) ch ck ++ wH ct h (rem hd 150) (flS pa ge (rem hd 150) n n) (fwS dc dl ge su (ends (rem hd 150) (flS pa ge (rem hd 150) n n)) n) ++ wT ct a n dc pa va dl ge su) := hD
  refine lv_aload_n hx hb dX1_clear_20 rfl (lv_at hl 0 rfl) ?_
  refine va_get (D := D) (ci := 1) (v := .ref (z 1)) (C := RX1) (T := TX1) (N := 5) hx hb hts (fun _ h => List.mem_cons_of_mem _ (List.mem_append_left _ (List.mem_append_left _ (List.mem_append_right _ h)))) hown hK.1 hP 0 rfl rfl 3 (by decide) (hts (.fieldLink RX1 25 "RevisionStores$Store" "changes" "[I") (List.mem_of_getElem? (i := 3) rfl)) (fun _ h9 => h9) rfl dX1_clear_21 ?_
  refine lv_iconst (v := nI 0) hx hb dX1_clear_24 (by decide) ?_
  refine r_wSv (As := [.ref (z 1), .int (nI 0)]) (rest := []) ⟨hx, hb, hml, hown, hts⟩ (cJ7_fill_53178_ok l D ct (z 1) 4 ch (nI 0) (fun _ => nI 0) (by decide) (fun _ _ => rfl) H.size) (va_cwS 2 hts gX1_clear_J7_fill_53178 rfl rfl rfl (by decide +kernel) ⟨Nat.le_of_ble_eq_true rfl, Nat.le_of_ble_eq_true rfl⟩) hK hP hD hS hA [1] rfl rfl rfl rfl hl.1 rfl (Nat.le_of_ble_eq_true rfl) dX1_clear_25 ⟨Nat.le_of_ble_eq_true rfl, Nat.le_of_ble_eq_true rfl⟩ (fun H locs hP hD hS => ?_)
  have hP : va_P D vwCl (wS ct z h dp (nI 0) (fun _ => nI 0) ck ++ wH ct h (rem hd 150) (flS pa ge (rem hd 150) n n) (fwS dc dl ge su (ends (rem hd 150) (flS pa ge (rem hd 150) n n)) n) ++ wT ct a n dc pa va dl ge su) H := hP
  have hD : va_D A (wS ct z h dp (nI 0) (fun _ => nI 0) ck ++ wH ct h (rem hd 150) (flS pa ge (rem hd 150) n n) (fwS dc dl ge su (ends (rem hd 150) (flS pa ge (rem hd 150) n n)) n) ++ wT ct a n dc pa va dl ge su) := hD
  refine lv_aload_n hx hb dX1_clear_28 rfl (lv_at hl 0 rfl) ?_
  refine va_get (D := D) (ci := 1) (v := .ref (z 2)) (C := RX1) (T := TX1) (N := 5) hx hb hts (fun _ h => List.mem_cons_of_mem _ (List.mem_append_left _ (List.mem_append_left _ (List.mem_append_right _ h)))) hown hK.1 hP 0 rfl rfl 4 (by decide) (hts (.fieldLink RX1 29 "RevisionStores$Store" "checkpoints" "[I") (List.mem_of_getElem? (i := 4) rfl)) (fun _ h9 => h9) rfl dX1_clear_29 ?_
  refine lv_iconst (v := nI 0) hx hb dX1_clear_32 (by decide) ?_
  refine r_wSv (As := [.ref (z 2), .int (nI 0)]) (rest := []) ⟨hx, hb, hml, hown, hts⟩ (cJ7_fill_53178_ok l D ct (z 2) 9 ck (nI 0) (fun _ => nI 0) (by decide) (fun _ _ => rfl) H.size) (va_cwS 2 hts gX1_clear_J7_fill_53178 rfl rfl rfl (by decide +kernel) ⟨Nat.le_of_ble_eq_true rfl, Nat.le_of_ble_eq_true rfl⟩) hK hP hD hS hA [2] rfl rfl rfl rfl hl.1 rfl (Nat.le_of_ble_eq_true rfl) dX1_clear_33 ⟨Nat.le_of_ble_eq_true rfl, Nat.le_of_ble_eq_true rfl⟩ (fun H locs hP hD hS => ?_)
  have hP : va_P D vwCl (wS ct z h dp (nI 0) (fun _ => nI 0) (fun _ => nI 0) ++ wH ct h (rem hd 150) (flS pa ge (rem hd 150) n n) (fwS dc dl ge su (ends (rem hd 150) (flS pa ge (rem hd 150) n n)) n) ++ wT ct a n dc pa va dl ge su) H := hP
  have hD : va_D A (wS ct z h dp (nI 0) (fun _ => nI 0) (fun _ => nI 0) ++ wH ct h (rem hd 150) (flS pa ge (rem hd 150) n n) (fwS dc dl ge su (ends (rem hd 150) (flS pa ge (rem hd 150) n n)) n) ++ wT ct a n dc pa va dl ge su) := hD
  have hP : va_P D vwCl (wS ct z h dp (nI 0) (fun _ => nI 0) (fun _ => nI 0) ++ wH ct h (rem hd 150) (flS pa ge (rem hd 150) n n) (fwS dc dl ge su (ends (rem hd 150) (flS pa ge (rem hd 150) n n)) n) ++ wT ct a n dc pa va dl ge su) H := hP
  exact W.vret hx hb hr (fun t ht hW => ⟨⟨(), rfl, trivial, by rw [ht]; exact hP⟩, hS.F ht⟩) hS.2.2 dX1_clear_36
set_option maxHeartbeats 8000000 in
set_option maxRecDepth 100000 in
theorem cX1_receive_ok (l : Launch) (D : va_G) (ct : Nat → ClassId) (z : Nat → Nat) (dp : Int32) (lt : Int32) (ch : Nat → Int32) (ck : Nat → Int32) (h : Nat → Nat) (hd : Nat → Bool) (nl : Nat → Nat) (wi : Nat → Option Nat) (a : Nat → Nat) (n : Nat) (dc : Nat → Nat) (pa : Nat → Option Nat) (va : Nat → Int32) (dl : Nat → Bool) (ge : Nat → Nat) (su : Nat → Int32) (g : Nat → Nat) (hd2 : Nat → Bool) (nl2 : Nat → Nat) (wi2 : Nat → Option Nat) (d : Nat) (hn : n ≤ 150) (hTd : ∀ k, dc k < 4) (hTg : ∀ k, ge k ≤ 150) (hTp : ∀ k j, k < n → pa k = some j → j < k) (hNl : ∀ k, nl k ≤ 151) (hNl2 : ∀ k, nl2 k ≤ 151) (hd4 : d < 4) (sz : Nat) : Met l yX1_receive wsX1_receive ({ frames := 5, cells := 0, slots := 0, locals := 109 } : Room) (wrPc D ct [.ref (z 0), .ref (a 0), .ref (g 0), .int (nI d)] (wS ct z h dp lt ch ck ++ wH ct h hd nl wi ++ wT ct a n dc pa va dl ge su ++ wH ct g hd2 nl2 wi2) sz) (wqI D (nI ((abS dc pa hd2 (ends hd2 nl2) nl d hd n).1)) (wS ct z h dp (if 0 < (abS dc pa hd2 (ends hd2 nl2) nl d hd n).1 then lt + nI 1 else lt) (if 0 < (abS dc pa hd2 (ends hd2 nl2) nl d hd n).1 then va_up ch d (lt + nI 1) else ch) ck ++ wH ct h (if 0 < (abS dc pa hd2 (ends hd2 nl2) nl d hd n).1 then stm ((abS dc pa hd2 (ends hd2 nl2) nl d hd n).2) (flS pa ge ((abS dc pa hd2 (ends hd2 nl2) nl d hd n).2) n n) ge dp n else (abS dc pa hd2 (ends hd2 nl2) nl d hd n).2) (if 0 < (abS dc pa hd2 (ends hd2 nl2) nl d hd n).1 then flS pa ge ((abS dc pa hd2 (ends hd2 nl2) nl d hd n).2) n n else nl) (if 0 < (abS dc pa hd2 (ends hd2 nl2) nl d hd n).1 then fwS dc dl ge su (ends ((abS dc pa hd2 (ends hd2 nl2) nl d hd n).2) (flS pa ge ((abS dc pa hd2 (ends hd2 nl2) nl d hd n).2) n n)) n else wi) ++ wT ct a n dc pa va dl ge su ++ wH ct g hd2 nl2 wi2) (va_A (wS ct z h dp lt ch ck ++ wH ct h hd nl wi ++ wT ct a n dc pa va dl ge su ++ wH ct g hd2 nl2 wi2) sz)) 0 0 (va_A (wS ct z h dp lt ch ck ++ wH ct h hd nl wi ++ wT ct a n dc pa va dl ge su ++ wH ct g hd2 nl2 wi2) sz) := by
  refine Met.ofW (cc := cX1_receive) (maxL := 5) (ret := (some .int)) (by decide) rfl ?_
  intro p e s m args below meth c s₁ B hml hv
  obtain ⟨rfl, hsz, hP, hK, hD0⟩ := hv
  have hx := B.exec
  have hb := B.bytes
  have hr := B.returns
  have hts := atoms_spec (ws := wsX1_receive) B.pre
  have hown : s.vm.findClass RX1 = some m.cls := findClass_of_methodNamed B.named
  have hlocks := B.notSynchronized
  subst hsz
  have hD := hD0.self (sz := s.heap.size)
  generalize hAe : va_A (wS ct z h dp lt ch ck ++ wH ct h hd nl wi ++ wT ct a n dc pa va dl ge su ++ wH ct g hd2 nl2 wi2) s.heap.size = A at hD ⊢
  have hA : ∀ q : Nat, s.heap.size ≤ q → A q := fun q h => by rw [← hAe]; exact Or.inr h
  have hS : va_S A s.heap s.heap [] := va_S.rf
  have hP : va_P D vwCl (wS ct z h dp lt ch ck ++ wH ct h hd nl wi ++ wT ct a n dc pa va dl ge su ++ wH ct g hd2 nl2 wi2) s.heap := hP
  clear hAe hD0
  have hl := lv_entry ([.ref (z 0), .ref (a 0), .ref (g 0), .int (nI d)]) (n := 5) (Nat.le_of_ble_eq_true rfl)
  rw [lg_entry_eq]
  generalize (lg_sl ([.ref (z 0), .ref (a 0), .ref (g 0), .int (nI d)]) ++ List.replicate (5 - (lg_sl ([.ref (z 0), .ref (a 0), .ref (g 0), .int (nI d)])).length) Slot.unset).toArray = ls at hl ⊢
  have hl : lv_has ls 5 [(0, .ref (z 0)), (1, .ref (a 0)), (2, .ref (g 0)), (3, .int (nI d))] := hl
  have hH0 : s.heap.size ≤ s.heap.size := Nat.le_refl _
  refine lv_aload_n hx hb dX1_receive_0 rfl (lv_at hl 0 rfl) ?_
  refine va_get (D := D) (ci := 1) (v := .ref (h 0)) (C := RX1) (T := TX1) (N := 5) hx hb hts (fun _ h => List.mem_cons_of_mem _ (List.mem_append_left _ (List.mem_append_left _ (List.mem_append_right _ h)))) hown hK.1 hP 0 rfl rfl 0 (by decide) (hts (.fieldLink RX1 12 "RevisionStores$Store" "holding" "LRevisionStores$Holding;") (List.mem_of_getElem? (i := 1) rfl)) (fun _ h9 => h9) rfl dX1_receive_1 ?_
  refine lv_aload_n hx hb dX1_receive_4 rfl (lv_at hl 1 rfl) ?_
  refine lv_aload_n hx hb dX1_receive_5 rfl (lv_at hl 2 rfl) ?_
  refine lv_iload_n hx hb dX1_receive_6 rfl (lv_at hl 3 rfl) ?_
  refine r_wVi (As := [.ref (a 0), .ref (g 0), .int (nI d)]) (rest := []) ⟨hx, hb, hml, hown, hts⟩ (cX0_addBranches_ok l D ct h hd nl wi a n dc pa va dl ge su g hd2 nl2 wi2 d (by first | assumption | omega) (by first | assumption | omega) (by first | assumption | omega) (by first | assumption | omega) (by first | assumption | omega) (by first | assumption | omega) s.heap.size) (cwV 3 hts gX1_receive_X0_addBranches rfl rfl rfl (by decide +kernel) ⟨Nat.le_of_ble_eq_true rfl, Nat.le_of_ble_eq_true rfl⟩) hK hP hD hS hA [3, 4, 5, 6, 7, 8, 9, 10, 11, 12, 13, 14, 15, 16, 17] rfl rfl rfl 0 0 rfl rfl rfl hl.1 rfl (Nat.le_of_ble_eq_true rfl) dX1_receive_7 ⟨Nat.le_of_ble_eq_true rfl, Nat.le_of_ble_eq_true rfl⟩ (fun H locs hP hD hS => ?_)
  have hP : va_P D vwCl (wS ct z h dp lt ch ck ++ wH ct h ((abS dc pa hd2 (ends hd2 nl2) nl d hd n).2) nl wi ++ wT ct a n dc pa va dl ge su ++ wH ct g hd2 nl2 wi2) H := hP
  have hD : va_D A (wS ct z h dp lt ch ck ++ wH ct h ((abS dc pa hd2 (ends hd2 nl2) nl d hd n).2) nl wi ++ wT ct a n dc pa va dl ge su ++ wH ct g hd2 nl2 wi2) := hD
  refine lv_istore (lv' := [(4, .int (nI ((abS dc pa hd2 (ends hd2 nl2) nl d hd n).1))), (0, .ref (z 0)), (1, .ref (a 0)), (2, .ref (g 0)), (3, .int (nI d))]) hx hb dX1_receive_10 hl (by decide) rfl (fun ls hl => ?_)
  have e12 := abS_le dc pa hd2 (ends hd2 nl2) nl d hd n
  refine lv_iload hx hb dX1_receive_12 (lv_at hl 0 rfl) ?_
  refine r_if_leN hx hb (x := (abS dc pa hd2 (ends hd2 nl2) nl d hd n).1) (by first | omega | decide) (tgt := 23) dX1_receive_14 (by decide) (fun c14 => ?_) (fun c14 => ?_)
  · refine lv_iload hx hb dX1_receive_23 (lv_at hl 0 rfl) ?_
    have e9 : lt = if 0 < (abS dc pa hd2 (ends hd2 nl2) nl d hd n).1 then lt + nI 1 else lt := by simp [c14]
    rw [e9] at hP
    have e9 : ch = if 0 < (abS dc pa hd2 (ends hd2 nl2) nl d hd n).1 then va_up ch d (lt + nI 1) else ch := by simp [c14]
    rw [e9] at hP
    have e9 : (abS dc pa hd2 (ends hd2 nl2) nl d hd n).2 = if 0 < (abS dc pa hd2 (ends hd2 nl2) nl d hd n).1 then stm ((abS dc pa hd2 (ends hd2 nl2) nl d hd n).2) (flS pa ge ((abS dc pa hd2 (ends hd2 nl2) nl d hd n).2) n n) ge dp n else (abS dc pa hd2 (ends hd2 nl2) nl d hd n).2 := by simp [c14]
    rw [e9] at hP
    have e9 : nl = if 0 < (abS dc pa hd2 (ends hd2 nl2) nl d hd n).1 then flS pa ge ((abS dc pa hd2 (ends hd2 nl2) nl d hd n).2) n n else nl := by simp [c14]
    rw [e9] at hP
    have e9 : wi = if 0 < (abS dc pa hd2 (ends hd2 nl2) nl d hd n).1 then fwS dc dl ge su (ends ((abS dc pa hd2 (ends hd2 nl2) nl d hd n).2) (flS pa ge ((abS dc pa hd2 (ends hd2 nl2) nl d hd n).2) n n)) n else wi := by simp [c14]
    rw [e9] at hP
    have hP : va_P D vwCl (wS ct z h dp (if 0 < (abS dc pa hd2 (ends hd2 nl2) nl d hd n).1 then lt + nI 1 else lt) (if 0 < (abS dc pa hd2 (ends hd2 nl2) nl d hd n).1 then va_up ch d (lt + nI 1) else ch) ck ++ wH ct h (if 0 < (abS dc pa hd2 (ends hd2 nl2) nl d hd n).1 then stm ((abS dc pa hd2 (ends hd2 nl2) nl d hd n).2) (flS pa ge ((abS dc pa hd2 (ends hd2 nl2) nl d hd n).2) n n) ge dp n else (abS dc pa hd2 (ends hd2 nl2) nl d hd n).2) (if 0 < (abS dc pa hd2 (ends hd2 nl2) nl d hd n).1 then flS pa ge ((abS dc pa hd2 (ends hd2 nl2) nl d hd n).2) n n else nl) (if 0 < (abS dc pa hd2 (ends hd2 nl2) nl d hd n).1 then fwS dc dl ge su (ends ((abS dc pa hd2 (ends hd2 nl2) nl d hd n).2) (flS pa ge ((abS dc pa hd2 (ends hd2 nl2) nl d hd n).2) n n)) n else wi) ++ wT ct a n dc pa va dl ge su ++ wH ct g hd2 nl2 wi2) H := hP
    exact W.iret hx hb hr (fun t ht hW => ⟨⟨_, (), rfl, rfl, by rw [ht]; exact hP⟩, hS.F ht⟩) hS.2.2 dX1_receive_25
  · refine lv_aload_n hx hb dX1_receive_17 rfl (lv_at hl 1 rfl) ?_
    refine lv_aload_n hx hb dX1_receive_18 rfl (lv_at hl 2 rfl) ?_
    refine lv_iload_n hx hb dX1_receive_19 rfl (lv_at hl 4 rfl) ?_
    refine r_wVv (As := [.ref (a 0), .int (nI d)]) (rest := []) ⟨hx, hb, hml, hown, hts⟩ (cX1_noteChange_ok l D ct z dp lt ch ck h ((abS dc pa hd2 (ends hd2 nl2) nl d hd n).2) nl wi a n dc pa va dl ge su d (by first | assumption | omega) (by first | assumption | omega) (by first | assumption | omega) (by first | assumption | omega) (by first | assumption | omega) H.size) (cwV 2 hts gX1_receive_X1_noteChange rfl rfl rfl (by decide +kernel) ⟨Nat.le_of_ble_eq_true rfl, Nat.le_of_ble_eq_true rfl⟩) hK hP hD hS hA [0, 1, 2, 3, 4, 5, 6, 7, 8, 9, 10, 11, 12, 13] rfl rfl rfl 0 1 rfl rfl rfl hl.1 rfl (Nat.le_of_ble_eq_true rfl) dX1_receive_20 ⟨Nat.le_of_ble_eq_true rfl, Nat.le_of_ble_eq_true rfl⟩ (fun H locs hP hD hS => ?_)
    have hP : va_P D vwCl (wS ct z h dp (lt + nI 1) (va_up ch d (lt + nI 1)) ck ++ wH ct h (stm ((abS dc pa hd2 (ends hd2 nl2) nl d hd n).2) (flS pa ge ((abS dc pa hd2 (ends hd2 nl2) nl d hd n).2) n n) ge dp n) (flS pa ge ((abS dc pa hd2 (ends hd2 nl2) nl d hd n).2) n n) (fwS dc dl ge su (ends ((abS dc pa hd2 (ends hd2 nl2) nl d hd n).2) (flS pa ge ((abS dc pa hd2 (ends hd2 nl2) nl d hd n).2) n n)) n) ++ wT ct a n dc pa va dl ge su ++ wH ct g hd2 nl2 wi2) H := hP
    have hD : va_D A (wS ct z h dp (lt + nI 1) (va_up ch d (lt + nI 1)) ck ++ wH ct h (stm ((abS dc pa hd2 (ends hd2 nl2) nl d hd n).2) (flS pa ge ((abS dc pa hd2 (ends hd2 nl2) nl d hd n).2) n n) ge dp n) (flS pa ge ((abS dc pa hd2 (ends hd2 nl2) nl d hd n).2) n n) (fwS dc dl ge su (ends ((abS dc pa hd2 (ends hd2 nl2) nl d hd n).2) (flS pa ge ((abS dc pa hd2 (ends hd2 nl2) nl d hd n).2) n n)) n) ++ wT ct a n dc pa va dl ge su ++ wH ct g hd2 nl2 wi2) := hD
    refine lv_iload hx hb dX1_receive_23 (lv_at hl 0 rfl) ?_
    have e9 : lt + nI 1 = if 0 < (abS dc pa hd2 (ends hd2 nl2) nl d hd n).1 then lt + nI 1 else lt := by simp [c14]
    rw [e9] at hP
    have e9 : va_up ch d (lt + nI 1) = if 0 < (abS dc pa hd2 (ends hd2 nl2) nl d hd n).1 then va_up ch d (lt + nI 1) else ch := by simp [c14]
    rw [e9] at hP
    have e9 : stm ((abS dc pa hd2 (ends hd2 nl2) nl d hd n).2) (flS pa ge ((abS dc pa hd2 (ends hd2 nl2) nl d hd n).2) n n) ge dp n = if 0 < (abS dc pa hd2 (ends hd2 nl2) nl d hd n).1 then stm ((abS dc pa hd2 (ends hd2 nl2) nl d hd n).2) (flS pa ge ((abS dc pa hd2 (ends hd2 nl2) nl d hd n).2) n n) ge dp n else (abS dc pa hd2 (ends hd2 nl2) nl d hd n).2 := by simp [c14]
    rw [e9] at hP
    have e9 : flS pa ge ((abS dc pa hd2 (ends hd2 nl2) nl d hd n).2) n n = if 0 < (abS dc pa hd2 (ends hd2 nl2) nl d hd n).1 then flS pa ge ((abS dc pa hd2 (ends hd2 nl2) nl d hd n).2) n n else nl := by simp [c14]
    rw [e9] at hP
    have e9 : fwS dc dl ge su (ends ((abS dc pa hd2 (ends hd2 nl2) nl d hd n).2) (flS pa ge ((abS dc pa hd2 (ends hd2 nl2) nl d hd n).2) n n)) n = if 0 < (abS dc pa hd2 (ends hd2 nl2) nl d hd n).1 then fwS dc dl ge su (ends ((abS dc pa hd2 (ends hd2 nl2) nl d hd n).2) (flS pa ge ((abS dc pa hd2 (ends hd2 nl2) nl d hd n).2) n n)) n else wi := by simp [c14]
    rw [e9] at hP
    have hP : va_P D vwCl (wS ct z h dp (if 0 < (abS dc pa hd2 (ends hd2 nl2) nl d hd n).1 then lt + nI 1 else lt) (if 0 < (abS dc pa hd2 (ends hd2 nl2) nl d hd n).1 then va_up ch d (lt + nI 1) else ch) ck ++ wH ct h (if 0 < (abS dc pa hd2 (ends hd2 nl2) nl d hd n).1 then stm ((abS dc pa hd2 (ends hd2 nl2) nl d hd n).2) (flS pa ge ((abS dc pa hd2 (ends hd2 nl2) nl d hd n).2) n n) ge dp n else (abS dc pa hd2 (ends hd2 nl2) nl d hd n).2) (if 0 < (abS dc pa hd2 (ends hd2 nl2) nl d hd n).1 then flS pa ge ((abS dc pa hd2 (ends hd2 nl2) nl d hd n).2) n n else nl) (if 0 < (abS dc pa hd2 (ends hd2 nl2) nl d hd n).1 then fwS dc dl ge su (ends ((abS dc pa hd2 (ends hd2 nl2) nl d hd n).2) (flS pa ge ((abS dc pa hd2 (ends hd2 nl2) nl d hd n).2) n n)) n else wi) ++ wT ct a n dc pa va dl ge su ++ wH ct g hd2 nl2 wi2) H := hP
    exact W.iret hx hb hr (fun t ht hW => ⟨⟨_, (), rfl, rfl, by rw [ht]; exact hP⟩, hS.F ht⟩) hS.2.2 dX1_receive_25
