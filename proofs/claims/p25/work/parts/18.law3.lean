set_option maxHeartbeats 1000000 in
set_option maxRecDepth 100000 in
theorem cL_make_old (l : Launch) (D : va_G) (ct : Nat → ClassId) (bd : Nat) (bv : Nat) (bp : Nat) (bg : Nat) (bu : Nat) (ba : Nat) (bm : Nat) (dc : Nat → Nat) (vo : Nat → Option Nat) (pa : Nat → Option Nat) (ge : Nat → Nat) (un : Nat → Nat) (an : Nat → Nat → Bool) (n : Nat) (d : Nat) (o : Option Nat) (v : Option Nat) (j : Nat) (hn : n ≤ 24) (hTd : ∀ k, dc k < 4) (hTv : ∀ k j, vo k = some j → j < 100) (hTp : ∀ k j, k < n → pa k = some j → j < k) (hd4 : d < 4) (ho : ∀ j, o = some j → j < n) (hv : ∀ j, v = some j → j < 100) (hf : ffd (mkP dc vo pa d o v) n = some j) : Met l yL_make wsL_make ({ frames := 0, cells := 0, slots := 0, locals := 0 } : Room) (roPc D ct [.ref bd, .ref bv, .ref bp, .ref bg, .ref bu, .ref ba, .ref bm, .int (nI d), .int (eP o), .int (eP v)] (wAN ct bd 24 dc ++ wAP ct bv 24 vo ++ wAP ct bp 24 pa ++ wAN ct bg 24 ge ++ wAN ct bu 24 un ++ wAM ct ba 24 an ++ wA1 ct bm n)) (rqI (nI j)) 0 0 (fun _ => False) := by
  refine Met.ofW (cc := cL_make) (maxL := 11) (ret := (some .int)) (by decide) rfl ?_
  intro p e s m args below meth c s₁ B hml hv
  obtain ⟨rfl, hP, hK⟩ := hv
  have hx := B.exec
  have hb := B.bytes
  have hr := B.returns
  have hts := atoms_spec (ws := wsL_make) B.pre
  have hown : s.vm.findClass RL = some m.cls := findClass_of_methodNamed B.named
  have hlocks := B.notSynchronized
  have hl := lv_entry ([.ref bd, .ref bv, .ref bp, .ref bg, .ref bu, .ref ba, .ref bm, .int (nI d), .int (eP o), .int (eP v)]) (n := 11) (Nat.le_of_ble_eq_true rfl)
  rw [lg_entry_eq]
  generalize (lg_sl ([.ref bd, .ref bv, .ref bp, .ref bg, .ref bu, .ref ba, .ref bm, .int (nI d), .int (eP o), .int (eP v)]) ++ List.replicate (11 - (lg_sl ([.ref bd, .ref bv, .ref bp, .ref bg, .ref bu, .ref ba, .ref bm, .int (nI d), .int (eP o), .int (eP v)])).length) Slot.unset).toArray = ls at hl ⊢
  have hl : lv_has ls 11 [(0, .ref bd), (1, .ref bv), (2, .ref bp), (3, .ref bg), (4, .ref bu), (5, .ref ba), (6, .ref bm), (7, .int (nI d)), (8, .int (eP o)), (9, .int (eP v))] := hl
  refine lv_iconst (v := nI 0) hx hb dL_make_0 (by decide) ?_
  refine lv_istore (lv' := [(10, .int (nI 0)), (0, .ref bd), (1, .ref bv), (2, .ref bp), (3, .ref bg), (4, .ref bu), (5, .ref ba), (6, .ref bm), (7, .int (nI d)), (8, .int (eP o)), (9, .int (eP v))]) hx hb dL_make_1 hl (by decide) rfl (fun ls hl => ?_)
  have key3 : ∀ (d3 : Nat) (k : Nat) (hk : k ≤ n) (hno : ffd (mkP dc vo pa d o v) k = none), n - k < d3 → ∀  (ls : Array Slot), lv_has ls 11 [(10, .int (nI k)), (0, .ref bd), (1, .ref bv), (2, .ref bp), (3, .ref bg), (4, .ref bu), (5, .ref ba), (6, .ref bm), (7, .int (nI d)), (8, .int (eP o)), (9, .int (eP v))] → W p l e ({ frames := 0, cells := 0, slots := 0, locals := 0 } : Room) s m ([.ref bd, .ref bv, .ref bp, .ref bg, .ref bu, .ref ba, .ref bm, .int (nI d), .int (eP o), .int (eP v)] : List Value).toArray below meth c s.heap [] 0 0 (MQ below (rqI (nI j)) ([.ref bd, .ref bv, .ref bp, .ref bg, .ref bu, .ref ba, .ref bm, .int (nI d), .int (eP o), .int (eP v)] : List Value).toArray s 0 0 (fun _ => False)) (F0 m 3 ls []) := by
    intro d3
    induction d3 with
    | zero => intro k hk hno h9; exact absurd h9 (Nat.not_lt_zero _)
    | succ d3 ih3 =>
      intro k hk hno hm3  ls  hl
      refine lv_iload hx hb dL_make_3 (lv_at hl 0 rfl) ?_
      refine lv_aload hx hb dL_make_5 (lv_at hl 7 rfl) ?_
      refine lv_iconst (v := nI 0) hx hb dL_make_7 (by decide) ?_
      refine r_iald (j := 0) (v := nI n) hx hb hK.1 hP 6 0 rfl rfl (by omega) (by first | decide | omega) (rfl) dL_make_8 ?_
      refine r_icmp_geN hx hb (x := k) (y := n) (by first | omega | decide) (by first | omega | decide) (tgt := 48) dL_make_9 (by decide) (fun c9 => ?_) (fun c9 => ?_)
      · exact absurd hno (by rw [show k = n by omega, hf]; exact fun h => by cases h)
      · refine lv_aload_n hx hb dL_make_12 rfl (lv_at hl 1 rfl) ?_
        refine lv_iload hx hb dL_make_13 (lv_at hl 0 rfl) ?_
        refine r_iald (j := k) (v := nI (dc k)) hx hb hK.1 hP 0 0 rfl rfl (by omega) (by first | decide | omega) (rfl) dL_make_15 ?_
        have f15 := hTd k
        refine lv_iload hx hb dL_make_16 (lv_at hl 8 rfl) ?_
        refine r_icmp_neN hx hb (x := dc k) (y := d) (by first | omega | decide) (by first | omega | decide) (tgt := 42) dL_make_18 (by decide) (fun c18 => ?_) (fun c18 => ?_)
        · refine lv_iinc (v := nI (k + 1)) (lv' := [(10, .int (nI (k + 1))), (0, .ref bd), (1, .ref bv), (2, .ref bp), (3, .ref bg), (4, .ref bu), (5, .ref ba), (6, .ref bm), (7, .int (nI d)), (8, .int (eP o)), (9, .int (eP v))]) hx hb dL_make_42 hl (k := 0) rfl (nI_1 _) (by decide) rfl (fun ls hl => ?_)
          refine lv_goto (tgt := 3) hx hb dL_make_45 (by decide) ?_
          exact ih3 (k + 1) (by first | assumption | omega) (ffd_no hno (by simp [mkP, c9, c18])) (by omega)  ls  (lv_sub hl [0, 1, 2, 3, 4, 5, 6, 7, 8, 9, 10] rfl)
        · refine lv_aload_n hx hb dL_make_21 rfl (lv_at hl 3 rfl) ?_
          refine lv_iload hx hb dL_make_22 (lv_at hl 0 rfl) ?_
          refine r_iald (j := k) (v := eP (pa k)) hx hb hK.1 hP 2 0 rfl rfl (by omega) (by first | decide | omega) (rfl) dL_make_24 ?_
          refine lv_iload hx hb dL_make_25 (lv_at hl 9 rfl) ?_
          refine r_icmp_nePP hx hb (x := pa k) (y := o) (by intro j9 h9; first | (have := ho _ h9; omega) | (have := hv _ h9; omega) | (have := hTp _ _ (by omega) h9; omega) | (have := hTv _ _ h9; omega)) (by intro j9 h9; first | (have := ho _ h9; omega) | (have := hv _ h9; omega) | (have := hTp _ _ (by omega) h9; omega) | (have := hTv _ _ h9; omega)) (tgt := 42) dL_make_27 (by decide) (fun c27 => ?_) (fun c27 => ?_)
          · refine lv_iinc (v := nI (k + 1)) (lv' := [(10, .int (nI (k + 1))), (0, .ref bd), (1, .ref bv), (2, .ref bp), (3, .ref bg), (4, .ref bu), (5, .ref ba), (6, .ref bm), (7, .int (nI d)), (8, .int (eP o)), (9, .int (eP v))]) hx hb dL_make_42 hl (k := 0) rfl (nI_1 _) (by decide) rfl (fun ls hl => ?_)
            refine lv_goto (tgt := 3) hx hb dL_make_45 (by decide) ?_
            exact ih3 (k + 1) (by first | assumption | omega) (ffd_no hno (by simp [mkP, c9, c18, c27])) (by omega)  ls  (lv_sub hl [0, 1, 2, 3, 4, 5, 6, 7, 8, 9, 10] rfl)
          · refine lv_aload_n hx hb dL_make_30 rfl (lv_at hl 2 rfl) ?_
            refine lv_iload hx hb dL_make_31 (lv_at hl 0 rfl) ?_
            refine r_iald (j := k) (v := eP (vo k)) hx hb hK.1 hP 1 0 rfl rfl (by omega) (by first | decide | omega) (rfl) dL_make_33 ?_
            refine lv_iload hx hb dL_make_34 (lv_at hl 10 rfl) ?_
            refine r_icmp_nePP hx hb (x := vo k) (y := v) (by intro j9 h9; first | (have := ho _ h9; omega) | (have := hv _ h9; omega) | (have := hTp _ _ (by omega) h9; omega) | (have := hTv _ _ h9; omega)) (by intro j9 h9; first | (have := ho _ h9; omega) | (have := hv _ h9; omega) | (have := hTp _ _ (by omega) h9; omega) | (have := hTv _ _ h9; omega)) (tgt := 42) dL_make_36 (by decide) (fun c36 => ?_) (fun c36 => ?_)
            · refine lv_iinc (v := nI (k + 1)) (lv' := [(10, .int (nI (k + 1))), (0, .ref bd), (1, .ref bv), (2, .ref bp), (3, .ref bg), (4, .ref bu), (5, .ref ba), (6, .ref bm), (7, .int (nI d)), (8, .int (eP o)), (9, .int (eP v))]) hx hb dL_make_42 hl (k := 0) rfl (nI_1 _) (by decide) rfl (fun ls hl => ?_)
              refine lv_goto (tgt := 3) hx hb dL_make_45 (by decide) ?_
              exact ih3 (k + 1) (by first | assumption | omega) (ffd_no hno (by simp [mkP, c9, c18, c27, c36])) (by omega)  ls  (lv_sub hl [0, 1, 2, 3, 4, 5, 6, 7, 8, 9, 10] rfl)
            · refine lv_iload hx hb dL_make_39 (lv_at hl 0 rfl) ?_
              refine r_top (y := nI j) (congrArg nI (show k = j from Option.some.inj ((ffd_hit (n := n) hno (by simp [mkP, c9, c18, c27, c36]) (by omega)).symm.trans hf))) ?_
              exact W.iret hx hb hr (fun t ht hW => ⟨_, rfl, rfl, ht⟩) (fun _ h => by cases h) dL_make_41
  exact key3 ((n - 0) + 1) 0 (by first | assumption | omega) (rfl) (Nat.lt_succ_self _)  ls  (lv_sub hl [0, 1, 2, 3, 4, 5, 6, 7, 8, 9, 10] rfl)
set_option maxHeartbeats 1000000 in
set_option maxRecDepth 100000 in
theorem cL_make_new (l : Launch) (D : va_G) (ct : Nat → ClassId) (bd : Nat) (bv : Nat) (bp : Nat) (bg : Nat) (bu : Nat) (ba : Nat) (bm : Nat) (dc : Nat → Nat) (vo : Nat → Option Nat) (pa : Nat → Option Nat) (ge : Nat → Nat) (un : Nat → Nat) (an : Nat → Nat → Bool) (n : Nat) (d : Nat) (o : Option Nat) (v : Option Nat) (hn9 : n < 24) (hTd : ∀ k, dc k < 4) (hTv : ∀ k j, vo k = some j → j < 100) (hTg : ∀ k, ge k ≤ 150) (hTu : ∀ k, un k < 997) (hTp : ∀ k j, k < n → pa k = some j → j < k) (hd4 : d < 4) (ho : ∀ j, o = some j → j < n) (hv : ∀ j, v = some j → j < 100) (hf : ffd (mkP dc vo pa d o v) n = none) (sz : Nat) : Met l yL_make wsL_make ({ frames := 0, cells := 0, slots := 0, locals := 0 } : Room) (wrPc D ct [.ref bd, .ref bv, .ref bp, .ref bg, .ref bu, .ref ba, .ref bm, .int (nI d), .int (eP o), .int (eP v)] (wAN ct bd 24 dc ++ wAP ct bv 24 vo ++ wAP ct bp 24 pa ++ wAN ct bg 24 ge ++ wAN ct bu 24 un ++ wAM ct ba 24 an ++ wA1 ct bm n) sz) (wqI D (nI n) (wAN ct bd 24 (va_up dc n d) ++ wAP ct bv 24 (va_up vo n v) ++ wAP ct bp 24 (va_up pa n o) ++ wAN ct bg 24 (va_up ge n (mkg ge o)) ++ wAN ct bu 24 (va_up un n (mku un (mkg ge o) o v)) ++ wAM ct ba 24 (va_up an n (mka an o)) ++ wA1 ct bm (n + 1)) (va_A (wAN ct bd 24 dc ++ wAP ct bv 24 vo ++ wAP ct bp 24 pa ++ wAN ct bg 24 ge ++ wAN ct bu 24 un ++ wAM ct ba 24 an ++ wA1 ct bm n) sz)) 0 0 (va_A (wAN ct bd 24 dc ++ wAP ct bv 24 vo ++ wAP ct bp 24 pa ++ wAN ct bg 24 ge ++ wAN ct bu 24 un ++ wAM ct ba 24 an ++ wA1 ct bm n) sz) := by
  refine Met.ofW (cc := cL_make) (maxL := 11) (ret := (some .int)) (by decide) rfl ?_
  intro p e s m args below meth c s₁ B hml hv
  obtain ⟨rfl, hsz, hP, hK, hD0⟩ := hv
  have hx := B.exec
  have hb := B.bytes
  have hr := B.returns
  have hts := atoms_spec (ws := wsL_make) B.pre
  have hown : s.vm.findClass RL = some m.cls := findClass_of_methodNamed B.named
  have hlocks := B.notSynchronized
  subst hsz
  have hD := hD0.self (sz := s.heap.size)
  generalize hAe : va_A (wAN ct bd 24 dc ++ wAP ct bv 24 vo ++ wAP ct bp 24 pa ++ wAN ct bg 24 ge ++ wAN ct bu 24 un ++ wAM ct ba 24 an ++ wA1 ct bm n) s.heap.size = A at hD ⊢
  have hA : ∀ q : Nat, s.heap.size ≤ q → A q := fun q h => by rw [← hAe]; exact Or.inr h
  have hS : va_S A s.heap s.heap [] := va_S.rf
  have hP : va_P D vwCl (wAN ct bd 24 dc ++ wAP ct bv 24 vo ++ wAP ct bp 24 pa ++ wAN ct bg 24 ge ++ wAN ct bu 24 un ++ wAM ct ba 24 an ++ wA1 ct bm n) s.heap := hP
  clear hAe hD0
  have hl := lv_entry ([.ref bd, .ref bv, .ref bp, .ref bg, .ref bu, .ref ba, .ref bm, .int (nI d), .int (eP o), .int (eP v)]) (n := 11) (Nat.le_of_ble_eq_true rfl)
  rw [lg_entry_eq]
  generalize (lg_sl ([.ref bd, .ref bv, .ref bp, .ref bg, .ref bu, .ref ba, .ref bm, .int (nI d), .int (eP o), .int (eP v)]) ++ List.replicate (11 - (lg_sl ([.ref bd, .ref bv, .ref bp, .ref bg, .ref bu, .ref ba, .ref bm, .int (nI d), .int (eP o), .int (eP v)])).length) Slot.unset).toArray = ls at hl ⊢
  have hl : lv_has ls 11 [(0, .ref bd), (1, .ref bv), (2, .ref bp), (3, .ref bg), (4, .ref bu), (5, .ref ba), (6, .ref bm), (7, .int (nI d)), (8, .int (eP o)), (9, .int (eP v))] := hl
  have hH0 : s.heap.size ≤ s.heap.size := Nat.le_refl _
  refine lv_iconst (v := nI 0) hx hb dL_make_0 (by decide) ?_
  refine lv_istore (lv' := [(10, .int (nI 0)), (0, .ref bd), (1, .ref bv), (2, .ref bp), (3, .ref bg), (4, .ref bu), (5, .ref ba), (6, .ref bm), (7, .int (nI d)), (8, .int (eP o)), (9, .int (eP v))]) hx hb dL_make_1 hl (by decide) rfl (fun ls hl => ?_)
  have key3 : ∀ (d3 : Nat) (k : Nat) (hk : k ≤ n) (hno : ffd (mkP dc vo pa d o v) k = none), n - k < d3 → ∀ (H : Heap) (locs : List Loc) (ls : Array Slot), va_P D vwCl (wAN ct bd 24 dc ++ wAP ct bv 24 vo ++ wAP ct bp 24 pa ++ wAN ct bg 24 ge ++ wAN ct bu 24 un ++ wAM ct ba 24 an ++ wA1 ct bm n) H → va_D A (wAN ct bd 24 dc ++ wAP ct bv 24 vo ++ wAP ct bp 24 pa ++ wAN ct bg 24 ge ++ wAN ct bu 24 un ++ wAM ct ba 24 an ++ wA1 ct bm n) → va_S A s.heap H locs → lv_has ls 11 [(10, .int (nI k)), (0, .ref bd), (1, .ref bv), (2, .ref bp), (3, .ref bg), (4, .ref bu), (5, .ref ba), (6, .ref bm), (7, .int (nI d)), (8, .int (eP o)), (9, .int (eP v))] → W p l e ({ frames := 0, cells := 0, slots := 0, locals := 0 } : Room) s m ([.ref bd, .ref bv, .ref bp, .ref bg, .ref bu, .ref ba, .ref bm, .int (nI d), .int (eP o), .int (eP v)] : List Value).toArray below meth c H locs 0 0 (MQ below (wqI D (nI n) (wAN ct bd 24 (va_up dc n d) ++ wAP ct bv 24 (va_up vo n v) ++ wAP ct bp 24 (va_up pa n o) ++ wAN ct bg 24 (va_up ge n (mkg ge o)) ++ wAN ct bu 24 (va_up un n (mku un (mkg ge o) o v)) ++ wAM ct ba 24 (va_up an n (mka an o)) ++ wA1 ct bm (n + 1)) A) ([.ref bd, .ref bv, .ref bp, .ref bg, .ref bu, .ref ba, .ref bm, .int (nI d), .int (eP o), .int (eP v)] : List Value).toArray s 0 0 A) (F0 m 3 ls []) := by
    intro d3
    induction d3 with
    | zero => intro k hk hno h9; exact absurd h9 (Nat.not_lt_zero _)
    | succ d3 ih3 =>
      intro k hk hno hm3 H locs ls hP hD hS hl
      refine lv_iload hx hb dL_make_3 (lv_at hl 0 rfl) ?_
      refine lv_aload hx hb dL_make_5 (lv_at hl 7 rfl) ?_
      refine lv_iconst (v := nI 0) hx hb dL_make_7 (by decide) ?_
      refine r_iald (j := 0) (v := nI n) hx hb hK.1 hP 6 0 rfl rfl (by omega) (by first | decide | omega) (rfl) dL_make_8 ?_
      refine r_icmp_geN hx hb (x := k) (y := n) (by first | omega | decide) (by first | omega | decide) (tgt := 48) dL_make_9 (by decide) (fun c9 => ?_) (fun c9 => ?_)
      · refine lv_aload hx hb dL_make_48 (lv_at hl 7 rfl) ?_
        refine lv_iconst (v := nI 0) hx hb dL_make_50 (by decide) ?_
        refine r_iald (j := 0) (v := nI n) hx hb hK.1 hP 6 0 rfl rfl (by omega) (by first | decide | omega) (rfl) dL_make_51 ?_
        refine lv_istore (lv' := [(10, .int (nI n)), (0, .ref bd), (1, .ref bv), (2, .ref bp), (3, .ref bg), (4, .ref bu), (5, .ref ba), (6, .ref bm), (7, .int (nI d)), (8, .int (eP o)), (9, .int (eP v))]) hx hb dL_make_52 hl (by decide) rfl (fun ls hl => ?_)
        refine lv_aload_n hx hb dL_make_54 rfl (lv_at hl 1 rfl) ?_
        refine lv_iload hx hb dL_make_55 (lv_at hl 0 rfl) ?_
        refine lv_iload hx hb dL_make_57 (lv_at hl 8 rfl) ?_
        refine r_iast (j := n) (x := (nI d)) (f' := fun q9 => nI ((va_up dc n d) q9)) hx hb hK.1 hP hD hS 0 0 rfl rfl (by omega) (by first | decide | omega) (up_n _ _ _) dL_make_59 (fun H locs hP hD hS => ?_)
        have hP : va_P D vwCl (wAN ct bd 24 (va_up dc n d) ++ wAP ct bv 24 vo ++ wAP ct bp 24 pa ++ wAN ct bg 24 ge ++ wAN ct bu 24 un ++ wAM ct ba 24 an ++ wA1 ct bm n) H := hP
        have hD : va_D A (wAN ct bd 24 (va_up dc n d) ++ wAP ct bv 24 vo ++ wAP ct bp 24 pa ++ wAN ct bg 24 ge ++ wAN ct bu 24 un ++ wAM ct ba 24 an ++ wA1 ct bm n) := hD
        refine lv_aload_n hx hb dL_make_60 rfl (lv_at hl 3 rfl) ?_
        refine lv_iload hx hb dL_make_61 (lv_at hl 0 rfl) ?_
        refine lv_iload hx hb dL_make_63 (lv_at hl 9 rfl) ?_
        refine r_iast (j := n) (x := (eP o)) (f' := fun q9 => eP ((va_up pa n o) q9)) hx hb hK.1 hP hD hS 2 0 rfl rfl (by omega) (by first | decide | omega) (up_p _ _ _) dL_make_65 (fun H locs hP hD hS => ?_)
        have hP : va_P D vwCl (wAN ct bd 24 (va_up dc n d) ++ wAP ct bv 24 vo ++ wAP ct bp 24 (va_up pa n o) ++ wAN ct bg 24 ge ++ wAN ct bu 24 un ++ wAM ct ba 24 an ++ wA1 ct bm n) H := hP
        have hD : va_D A (wAN ct bd 24 (va_up dc n d) ++ wAP ct bv 24 vo ++ wAP ct bp 24 (va_up pa n o) ++ wAN ct bg 24 ge ++ wAN ct bu 24 un ++ wAM ct ba 24 an ++ wA1 ct bm n) := hD
        refine lv_aload_n hx hb dL_make_66 rfl (lv_at hl 2 rfl) ?_
        refine lv_iload hx hb dL_make_67 (lv_at hl 0 rfl) ?_
        refine lv_iload hx hb dL_make_69 (lv_at hl 10 rfl) ?_
        refine r_iast (j := n) (x := (eP v)) (f' := fun q9 => eP ((va_up vo n v) q9)) hx hb hK.1 hP hD hS 1 0 rfl rfl (by omega) (by first | decide | omega) (up_p _ _ _) dL_make_71 (fun H locs hP hD hS => ?_)
        have hP : va_P D vwCl (wAN ct bd 24 (va_up dc n d) ++ wAP ct bv 24 (va_up vo n v) ++ wAP ct bp 24 (va_up pa n o) ++ wAN ct bg 24 ge ++ wAN ct bu 24 un ++ wAM ct ba 24 an ++ wA1 ct bm n) H := hP
        have hD : va_D A (wAN ct bd 24 (va_up dc n d) ++ wAP ct bv 24 (va_up vo n v) ++ wAP ct bp 24 (va_up pa n o) ++ wAN ct bg 24 ge ++ wAN ct bu 24 un ++ wAM ct ba 24 an ++ wA1 ct bm n) := hD
        refine lv_aload_n hx hb dL_make_72 rfl (lv_at hl 4 rfl) ?_
        refine lv_iload hx hb dL_make_73 (lv_at hl 0 rfl) ?_
        refine lv_iload hx hb dL_make_75 (lv_at hl 9 rfl) ?_
        refine r_if_geP hx hb (x := o) (by intro j9 h9; first | (have := ho _ h9; omega) | (have := hv _ h9; omega) | (have := hTp _ _ (by omega) h9; omega) | (have := hTv _ _ h9; omega)) (tgt := 84) dL_make_77 (by decide) (fun j77 c77 => ?_) (fun c77 => ?_)
        · have hl := lv_re (f := fun z9 => [(10, .int (nI n)), (0, .ref bd), (1, .ref bv), (2, .ref bp), (3, .ref bg), (4, .ref bu), (5, .ref ba), (6, .ref bm), (7, .int (nI d)), (8, .int z9), (9, .int (eP v))]) hl (show eP o = nI j77 from congrArg eP c77)
          have e84 := ho _ c77
          refine lv_iconst (v := nI 1) hx hb dL_make_84 (by decide) ?_
          refine lv_aload_n hx hb dL_make_85 rfl (lv_at hl 4 rfl) ?_
          refine lv_iload hx hb dL_make_86 (lv_at hl 9 rfl) ?_
          refine r_iald (j := j77) (v := nI (ge j77)) hx hb hK.1 hP 3 0 rfl rfl (by omega) (by first | decide | omega) (rfl) dL_make_88 ?_
          have f88 := hTg j77
          refine r_iaddN hx hb dL_make_89 ?_
          refine r_top (y := nI (mkg ge o)) (congrArg nI (show (1 + (ge j77)) = (mkg ge o) from by simp [mkg, c9, c77, Nat.add_comm])) ?_
          refine r_iast (j := n) (x := (nI (mkg ge o))) (f' := fun q9 => nI ((va_up ge n (mkg ge o)) q9)) hx hb hK.1 hP hD hS 3 0 rfl rfl (by omega) (by first | decide | omega) (up_n _ _ _) dL_make_90 (fun H locs hP hD hS => ?_)
          have hP : va_P D vwCl (wAN ct bd 24 (va_up dc n d) ++ wAP ct bv 24 (va_up vo n v) ++ wAP ct bp 24 (va_up pa n o) ++ wAN ct bg 24 (va_up ge n (mkg ge o)) ++ wAN ct bu 24 un ++ wAM ct ba 24 an ++ wA1 ct bm n) H := hP
          have hD : va_D A (wAN ct bd 24 (va_up dc n d) ++ wAP ct bv 24 (va_up vo n v) ++ wAP ct bp 24 (va_up pa n o) ++ wAN ct bg 24 (va_up ge n (mkg ge o)) ++ wAN ct bu 24 un ++ wAM ct ba 24 an ++ wA1 ct bm n) := hD
          have eg := mkg_b hTg o
          refine lv_aload hx hb dL_make_91 (lv_at hl 6 rfl) ?_
          refine lv_iload hx hb dL_make_93 (lv_at hl 0 rfl) ?_
          refine lv_iload hx hb dL_make_95 (lv_at hl 9 rfl) ?_
          refine lv_if_ge (x := nI j77) (tgt := 104) hx hb dL_make_97 (by decide) (fun _ => ?_) (fun h => absurd (nI_pos' (by first | omega | decide)) h)
          refine lv_aload hx hb dL_make_104 (lv_at hl 6 rfl) ?_
          refine lv_iload hx hb dL_make_106 (lv_at hl 9 rfl) ?_
          refine r_iald (j := j77) (v := mM (an j77)) hx hb hK.1 hP 5 0 rfl rfl (by omega) (by first | decide | omega) (rfl) dL_make_108 ?_
          refine lv_iconst (v := nI 1) hx hb dL_make_109 (by decide) ?_
          refine lv_iload hx hb dL_make_110 (lv_at hl 9 rfl) ?_
          refine lv_ishl hx hb dL_make_112 ?_
          refine r_top (y := mM (sgl j77 true)) (mM_shl1 (by omega)) ?_
          refine lv_ior hx hb dL_make_113 ?_
          refine r_top (y := mM (mOr (an j77) (sgl j77 true))) (mM_or _ _) ?_
          refine r_top (y := mM (mka an o)) (by first | exact mka_n c77 | exact mka_s c77) ?_
          refine r_iast (j := n) (x := (mM (mka an o))) (f' := fun q9 => mM ((va_up an n (mka an o)) q9)) hx hb hK.1 hP hD hS 5 0 rfl rfl (by omega) (by first | decide | omega) (up_m _ _ _) dL_make_114 (fun H locs hP hD hS => ?_)
          have hP : va_P D vwCl (wAN ct bd 24 (va_up dc n d) ++ wAP ct bv 24 (va_up vo n v) ++ wAP ct bp 24 (va_up pa n o) ++ wAN ct bg 24 (va_up ge n (mkg ge o)) ++ wAN ct bu 24 un ++ wAM ct ba 24 (va_up an n (mka an o)) ++ wA1 ct bm n) H := hP
          have hD : va_D A (wAN ct bd 24 (va_up dc n d) ++ wAP ct bv 24 (va_up vo n v) ++ wAP ct bp 24 (va_up pa n o) ++ wAN ct bg 24 (va_up ge n (mkg ge o)) ++ wAN ct bu 24 un ++ wAM ct ba 24 (va_up an n (mka an o)) ++ wA1 ct bm n) := hD
          refine lv_aload hx hb dL_make_115 (lv_at hl 5 rfl) ?_
          refine lv_iload hx hb dL_make_117 (lv_at hl 0 rfl) ?_
          refine lv_iload hx hb dL_make_119 (lv_at hl 9 rfl) ?_
          refine lv_if_ge (x := nI j77) (tgt := 129) hx hb dL_make_121 (by decide) (fun _ => ?_) (fun h => absurd (nI_pos' (by first | omega | decide)) h)
          refine lv_bipush (v := nI 31) hx hb dL_make_129 (by decide) ?_
          refine lv_aload hx hb dL_make_131 (lv_at hl 5 rfl) ?_
          refine lv_iload hx hb dL_make_133 (lv_at hl 9 rfl) ?_
          refine r_iald (j := j77) (v := nI (un j77)) hx hb hK.1 hP 4 0 rfl rfl (by omega) (by first | decide | omega) (rfl) dL_make_135 ?_
          have f135 := hTu j77
          refine r_imulN hx hb dL_make_136 ?_
          refine lv_iload hx hb dL_make_137 (lv_at hl 10 rfl) ?_
          refine r_if_geP hx hb (x := v) (by intro j9 h9; first | (have := ho _ h9; omega) | (have := hv _ h9; omega) | (have := hTp _ _ (by omega) h9; omega) | (have := hTv _ _ h9; omega)) (tgt := 146) dL_make_139 (by decide) (fun j139 c139 => ?_) (fun c139 => ?_)
          · have hl := lv_re (f := fun z9 => [(10, .int (nI n)), (0, .ref bd), (1, .ref bv), (2, .ref bp), (3, .ref bg), (4, .ref bu), (5, .ref ba), (6, .ref bm), (7, .int (nI d)), (8, .int (nI j77)), (9, .int z9)]) hl (show eP v = nI j139 from congrArg eP c139)
            have e146 := hv _ c139
            refine lv_bipush (v := nI 7) hx hb dL_make_146 (by decide) ?_
            refine lv_iload hx hb dL_make_148 (lv_at hl 10 rfl) ?_
            refine r_imulN hx hb dL_make_150 ?_
            refine r_iaddN hx hb dL_make_151 ?_
            refine lv_aload_n hx hb dL_make_152 rfl (lv_at hl 4 rfl) ?_
            refine lv_iload hx hb dL_make_153 (lv_at hl 0 rfl) ?_
            refine r_iald (j := n) (v := nI ((va_up ge n (mkg ge o)) n)) hx hb hK.1 hP 3 0 rfl rfl (by omega) (by first | decide | omega) (rfl) dL_make_155 ?_
            have f155 := hTg n
            refine r_top (y := nI (mkg ge o)) (congrArg nI (show ((va_up ge n (mkg ge o)) n) = (mkg ge o) from up_s _ _ _)) ?_
            refine r_iaddN hx hb dL_make_156 ?_
            refine lv_sipush (v := nI 997) hx hb dL_make_157 (by decide) ?_
            refine lv_irem hx hb dL_make_160 (by decide) ?_
            refine r_top (y := nI ((((31 * (un j77)) + (7 * j139)) + (mkg ge o)) % 997)) (pk_rem (by omega) (by omega) (by first | omega | decide)) ?_
            refine r_top (y := nI (mku un (mkg ge o) o v)) (congrArg nI (show ((((31 * (un j77)) + (7 * j139)) + (mkg ge o)) % 997) = (mku un (mkg ge o) o v) from by simp [mku, c9, c77, c139])) ?_
            refine r_iast (j := n) (x := (nI (mku un (mkg ge o) o v))) (f' := fun q9 => nI ((va_up un n (mku un (mkg ge o) o v)) q9)) hx hb hK.1 hP hD hS 4 0 rfl rfl (by omega) (by first | decide | omega) (up_n _ _ _) dL_make_161 (fun H locs hP hD hS => ?_)
            have hP : va_P D vwCl (wAN ct bd 24 (va_up dc n d) ++ wAP ct bv 24 (va_up vo n v) ++ wAP ct bp 24 (va_up pa n o) ++ wAN ct bg 24 (va_up ge n (mkg ge o)) ++ wAN ct bu 24 (va_up un n (mku un (mkg ge o) o v)) ++ wAM ct ba 24 (va_up an n (mka an o)) ++ wA1 ct bm n) H := hP
            have hD : va_D A (wAN ct bd 24 (va_up dc n d) ++ wAP ct bv 24 (va_up vo n v) ++ wAP ct bp 24 (va_up pa n o) ++ wAN ct bg 24 (va_up ge n (mkg ge o)) ++ wAN ct bu 24 (va_up un n (mku un (mkg ge o) o v)) ++ wAM ct ba 24 (va_up an n (mka an o)) ++ wA1 ct bm n) := hD
            refine lv_aload hx hb dL_make_162 (lv_at hl 7 rfl) ?_
            refine lv_iconst (v := nI 0) hx hb dL_make_164 (by decide) ?_
            refine lv_dup2_11 hx hb dL_make_165 rfl rfl ?_
            refine r_iald (j := 0) (v := nI n) hx hb hK.1 hP 6 0 rfl rfl (by omega) (by first | decide | omega) (rfl) dL_make_166 ?_
            refine lv_iconst (v := nI 1) hx hb dL_make_167 (by decide) ?_
            refine r_iaddN hx hb dL_make_168 ?_
            refine r_iast (j := 0) (x := (nI (n + 1))) (f' := fun j9 => nI (m0 (n + 1) j9)) hx hb hK.1 hP hD hS 6 0 rfl rfl (by decide) (by decide) (m0_up _ _) dL_make_169 (fun H locs hP hD hS => ?_)
            have hP : va_P D vwCl (wAN ct bd 24 (va_up dc n d) ++ wAP ct bv 24 (va_up vo n v) ++ wAP ct bp 24 (va_up pa n o) ++ wAN ct bg 24 (va_up ge n (mkg ge o)) ++ wAN ct bu 24 (va_up un n (mku un (mkg ge o) o v)) ++ wAM ct ba 24 (va_up an n (mka an o)) ++ wA1 ct bm (n + 1)) H := hP
            have hD : va_D A (wAN ct bd 24 (va_up dc n d) ++ wAP ct bv 24 (va_up vo n v) ++ wAP ct bp 24 (va_up pa n o) ++ wAN ct bg 24 (va_up ge n (mkg ge o)) ++ wAN ct bu 24 (va_up un n (mku un (mkg ge o) o v)) ++ wAM ct ba 24 (va_up an n (mka an o)) ++ wA1 ct bm (n + 1)) := hD
            refine lv_iload hx hb dL_make_170 (lv_at hl 0 rfl) ?_
            exact W.iret hx hb hr (fun t ht hW => ⟨⟨_, (), rfl, rfl, by show va_P D vwCl _ t.heap; rw [ht]; exact hP⟩, hS.F ht⟩) hS.2.2 dL_make_172
          · have hl := lv_re (f := fun z9 => [(10, .int (nI n)), (0, .ref bd), (1, .ref bv), (2, .ref bp), (3, .ref bg), (4, .ref bu), (5, .ref ba), (6, .ref bm), (7, .int (nI d)), (8, .int (nI j77)), (9, .int z9)]) hl (show eP v = eP none from congrArg eP c139)
            refine lv_iconst (v := nI 3) hx hb dL_make_142 (by decide) ?_
            refine lv_goto (tgt := 151) hx hb dL_make_143 (by decide) ?_
            refine r_iaddN hx hb dL_make_151 ?_
            refine lv_aload_n hx hb dL_make_152 rfl (lv_at hl 4 rfl) ?_
            refine lv_iload hx hb dL_make_153 (lv_at hl 0 rfl) ?_
            refine r_iald (j := n) (v := nI ((va_up ge n (mkg ge o)) n)) hx hb hK.1 hP 3 0 rfl rfl (by omega) (by first | decide | omega) (rfl) dL_make_155 ?_
            have f155 := hTg n
            refine r_top (y := nI (mkg ge o)) (congrArg nI (show ((va_up ge n (mkg ge o)) n) = (mkg ge o) from up_s _ _ _)) ?_
            refine r_iaddN hx hb dL_make_156 ?_
            refine lv_sipush (v := nI 997) hx hb dL_make_157 (by decide) ?_
            refine lv_irem hx hb dL_make_160 (by decide) ?_
            refine r_top (y := nI ((((31 * (un j77)) + 3) + (mkg ge o)) % 997)) (pk_rem (by omega) (by omega) (by first | omega | decide)) ?_
            refine r_top (y := nI (mku un (mkg ge o) o v)) (congrArg nI (show ((((31 * (un j77)) + 3) + (mkg ge o)) % 997) = (mku un (mkg ge o) o v) from by simp [mku, c9, c77, c139])) ?_
            refine r_iast (j := n) (x := (nI (mku un (mkg ge o) o v))) (f' := fun q9 => nI ((va_up un n (mku un (mkg ge o) o v)) q9)) hx hb hK.1 hP hD hS 4 0 rfl rfl (by omega) (by first | decide | omega) (up_n _ _ _) dL_make_161 (fun H locs hP hD hS => ?_)
            have hP : va_P D vwCl (wAN ct bd 24 (va_up dc n d) ++ wAP ct bv 24 (va_up vo n v) ++ wAP ct bp 24 (va_up pa n o) ++ wAN ct bg 24 (va_up ge n (mkg ge o)) ++ wAN ct bu 24 (va_up un n (mku un (mkg ge o) o v)) ++ wAM ct ba 24 (va_up an n (mka an o)) ++ wA1 ct bm n) H := hP
            have hD : va_D A (wAN ct bd 24 (va_up dc n d) ++ wAP ct bv 24 (va_up vo n v) ++ wAP ct bp 24 (va_up pa n o) ++ wAN ct bg 24 (va_up ge n (mkg ge o)) ++ wAN ct bu 24 (va_up un n (mku un (mkg ge o) o v)) ++ wAM ct ba 24 (va_up an n (mka an o)) ++ wA1 ct bm n) := hD
            refine lv_aload hx hb dL_make_162 (lv_at hl 7 rfl) ?_
            refine lv_iconst (v := nI 0) hx hb dL_make_164 (by decide) ?_
            refine lv_dup2_11 hx hb dL_make_165 rfl rfl ?_
            refine r_iald (j := 0) (v := nI n) hx hb hK.1 hP 6 0 rfl rfl (by omega) (by first | decide | omega) (rfl) dL_make_166 ?_
            refine lv_iconst (v := nI 1) hx hb dL_make_167 (by decide) ?_
            refine r_iaddN hx hb dL_make_168 ?_
            refine r_iast (j := 0) (x := (nI (n + 1))) (f' := fun j9 => nI (m0 (n + 1) j9)) hx hb hK.1 hP hD hS 6 0 rfl rfl (by decide) (by decide) (m0_up _ _) dL_make_169 (fun H locs hP hD hS => ?_)
            have hP : va_P D vwCl (wAN ct bd 24 (va_up dc n d) ++ wAP ct bv 24 (va_up vo n v) ++ wAP ct bp 24 (va_up pa n o) ++ wAN ct bg 24 (va_up ge n (mkg ge o)) ++ wAN ct bu 24 (va_up un n (mku un (mkg ge o) o v)) ++ wAM ct ba 24 (va_up an n (mka an o)) ++ wA1 ct bm (n + 1)) H := hP
            have hD : va_D A (wAN ct bd 24 (va_up dc n d) ++ wAP ct bv 24 (va_up vo n v) ++ wAP ct bp 24 (va_up pa n o) ++ wAN ct bg 24 (va_up ge n (mkg ge o)) ++ wAN ct bu 24 (va_up un n (mku un (mkg ge o) o v)) ++ wAM ct ba 24 (va_up an n (mka an o)) ++ wA1 ct bm (n + 1)) := hD
            refine lv_iload hx hb dL_make_170 (lv_at hl 0 rfl) ?_
            exact W.iret hx hb hr (fun t ht hW => ⟨⟨_, (), rfl, rfl, by show va_P D vwCl _ t.heap; rw [ht]; exact hP⟩, hS.F ht⟩) hS.2.2 dL_make_172
        · have hl := lv_re (f := fun z9 => [(10, .int (nI n)), (0, .ref bd), (1, .ref bv), (2, .ref bp), (3, .ref bg), (4, .ref bu), (5, .ref ba), (6, .ref bm), (7, .int (nI d)), (8, .int z9), (9, .int (eP v))]) hl (show eP o = eP none from congrArg eP c77)
          refine lv_iconst (v := nI 1) hx hb dL_make_80 (by decide) ?_
          refine lv_goto (tgt := 90) hx hb dL_make_81 (by decide) ?_
          refine r_top (y := nI (mkg ge o)) (congrArg nI (show 1 = (mkg ge o) from by simp [mkg, c9, c77, Nat.add_comm])) ?_
          refine r_iast (j := n) (x := (nI (mkg ge o))) (f' := fun q9 => nI ((va_up ge n (mkg ge o)) q9)) hx hb hK.1 hP hD hS 3 0 rfl rfl (by omega) (by first | decide | omega) (up_n _ _ _) dL_make_90 (fun H locs hP hD hS => ?_)
          have hP : va_P D vwCl (wAN ct bd 24 (va_up dc n d) ++ wAP ct bv 24 (va_up vo n v) ++ wAP ct bp 24 (va_up pa n o) ++ wAN ct bg 24 (va_up ge n (mkg ge o)) ++ wAN ct bu 24 un ++ wAM ct ba 24 an ++ wA1 ct bm n) H := hP
          have hD : va_D A (wAN ct bd 24 (va_up dc n d) ++ wAP ct bv 24 (va_up vo n v) ++ wAP ct bp 24 (va_up pa n o) ++ wAN ct bg 24 (va_up ge n (mkg ge o)) ++ wAN ct bu 24 un ++ wAM ct ba 24 an ++ wA1 ct bm n) := hD
          have eg := mkg_b hTg o
          refine lv_aload hx hb dL_make_91 (lv_at hl 6 rfl) ?_
          refine lv_iload hx hb dL_make_93 (lv_at hl 0 rfl) ?_
          refine lv_iload hx hb dL_make_95 (lv_at hl 9 rfl) ?_
          refine lv_if_ge (x := -1) (tgt := 104) hx hb dL_make_97 (by decide) (fun h => absurd h (by decide)) (fun _ => ?_)
          refine lv_iconst (v := nI 0) hx hb dL_make_100 (by decide) ?_
          refine lv_goto (tgt := 114) hx hb dL_make_101 (by decide) ?_
          refine r_top (y := mM (mka an o)) (by first | exact mka_n c77 | exact mka_s c77) ?_
          refine r_iast (j := n) (x := (mM (mka an o))) (f' := fun q9 => mM ((va_up an n (mka an o)) q9)) hx hb hK.1 hP hD hS 5 0 rfl rfl (by omega) (by first | decide | omega) (up_m _ _ _) dL_make_114 (fun H locs hP hD hS => ?_)
          have hP : va_P D vwCl (wAN ct bd 24 (va_up dc n d) ++ wAP ct bv 24 (va_up vo n v) ++ wAP ct bp 24 (va_up pa n o) ++ wAN ct bg 24 (va_up ge n (mkg ge o)) ++ wAN ct bu 24 un ++ wAM ct ba 24 (va_up an n (mka an o)) ++ wA1 ct bm n) H := hP
          have hD : va_D A (wAN ct bd 24 (va_up dc n d) ++ wAP ct bv 24 (va_up vo n v) ++ wAP ct bp 24 (va_up pa n o) ++ wAN ct bg 24 (va_up ge n (mkg ge o)) ++ wAN ct bu 24 un ++ wAM ct ba 24 (va_up an n (mka an o)) ++ wA1 ct bm n) := hD
          refine lv_aload hx hb dL_make_115 (lv_at hl 5 rfl) ?_
          refine lv_iload hx hb dL_make_117 (lv_at hl 0 rfl) ?_
          refine lv_iload hx hb dL_make_119 (lv_at hl 9 rfl) ?_
          refine lv_if_ge (x := -1) (tgt := 129) hx hb dL_make_121 (by decide) (fun h => absurd h (by decide)) (fun _ => ?_)
          refine lv_bipush (v := nI 31) hx hb dL_make_124 (by decide) ?_
          refine lv_goto (tgt := 137) hx hb dL_make_126 (by decide) ?_
          refine lv_iload hx hb dL_make_137 (lv_at hl 10 rfl) ?_
          refine r_if_geP hx hb (x := v) (by intro j9 h9; first | (have := ho _ h9; omega) | (have := hv _ h9; omega) | (have := hTp _ _ (by omega) h9; omega) | (have := hTv _ _ h9; omega)) (tgt := 146) dL_make_139 (by decide) (fun j139 c139 => ?_) (fun c139 => ?_)
          · have hl := lv_re (f := fun z9 => [(10, .int (nI n)), (0, .ref bd), (1, .ref bv), (2, .ref bp), (3, .ref bg), (4, .ref bu), (5, .ref ba), (6, .ref bm), (7, .int (nI d)), (8, .int (eP none)), (9, .int z9)]) hl (show eP v = nI j139 from congrArg eP c139)
            have e146 := hv _ c139
            refine lv_bipush (v := nI 7) hx hb dL_make_146 (by decide) ?_
            refine lv_iload hx hb dL_make_148 (lv_at hl 10 rfl) ?_
            refine r_imulN hx hb dL_make_150 ?_
            refine r_iaddN hx hb dL_make_151 ?_
            refine lv_aload_n hx hb dL_make_152 rfl (lv_at hl 4 rfl) ?_
            refine lv_iload hx hb dL_make_153 (lv_at hl 0 rfl) ?_
            refine r_iald (j := n) (v := nI ((va_up ge n (mkg ge o)) n)) hx hb hK.1 hP 3 0 rfl rfl (by omega) (by first | decide | omega) (rfl) dL_make_155 ?_
            have f155 := hTg n
            refine r_top (y := nI (mkg ge o)) (congrArg nI (show ((va_up ge n (mkg ge o)) n) = (mkg ge o) from up_s _ _ _)) ?_
            refine r_iaddN hx hb dL_make_156 ?_
            refine lv_sipush (v := nI 997) hx hb dL_make_157 (by decide) ?_
            refine lv_irem hx hb dL_make_160 (by decide) ?_
            refine r_top (y := nI (((31 + (7 * j139)) + (mkg ge o)) % 997)) (pk_rem (by omega) (by omega) (by first | omega | decide)) ?_
            refine r_top (y := nI (mku un (mkg ge o) o v)) (congrArg nI (show (((31 + (7 * j139)) + (mkg ge o)) % 997) = (mku un (mkg ge o) o v) from by simp [mku, c9, c77, c139])) ?_
            refine r_iast (j := n) (x := (nI (mku un (mkg ge o) o v))) (f' := fun q9 => nI ((va_up un n (mku un (mkg ge o) o v)) q9)) hx hb hK.1 hP hD hS 4 0 rfl rfl (by omega) (by first | decide | omega) (up_n _ _ _) dL_make_161 (fun H locs hP hD hS => ?_)
            have hP : va_P D vwCl (wAN ct bd 24 (va_up dc n d) ++ wAP ct bv 24 (va_up vo n v) ++ wAP ct bp 24 (va_up pa n o) ++ wAN ct bg 24 (va_up ge n (mkg ge o)) ++ wAN ct bu 24 (va_up un n (mku un (mkg ge o) o v)) ++ wAM ct ba 24 (va_up an n (mka an o)) ++ wA1 ct bm n) H := hP
            have hD : va_D A (wAN ct bd 24 (va_up dc n d) ++ wAP ct bv 24 (va_up vo n v) ++ wAP ct bp 24 (va_up pa n o) ++ wAN ct bg 24 (va_up ge n (mkg ge o)) ++ wAN ct bu 24 (va_up un n (mku un (mkg ge o) o v)) ++ wAM ct ba 24 (va_up an n (mka an o)) ++ wA1 ct bm n) := hD
            refine lv_aload hx hb dL_make_162 (lv_at hl 7 rfl) ?_
            refine lv_iconst (v := nI 0) hx hb dL_make_164 (by decide) ?_
            refine lv_dup2_11 hx hb dL_make_165 rfl rfl ?_
            refine r_iald (j := 0) (v := nI n) hx hb hK.1 hP 6 0 rfl rfl (by omega) (by first | decide | omega) (rfl) dL_make_166 ?_
            refine lv_iconst (v := nI 1) hx hb dL_make_167 (by decide) ?_
            refine r_iaddN hx hb dL_make_168 ?_
            refine r_iast (j := 0) (x := (nI (n + 1))) (f' := fun j9 => nI (m0 (n + 1) j9)) hx hb hK.1 hP hD hS 6 0 rfl rfl (by decide) (by decide) (m0_up _ _) dL_make_169 (fun H locs hP hD hS => ?_)
            have hP : va_P D vwCl (wAN ct bd 24 (va_up dc n d) ++ wAP ct bv 24 (va_up vo n v) ++ wAP ct bp 24 (va_up pa n o) ++ wAN ct bg 24 (va_up ge n (mkg ge o)) ++ wAN ct bu 24 (va_up un n (mku un (mkg ge o) o v)) ++ wAM ct ba 24 (va_up an n (mka an o)) ++ wA1 ct bm (n + 1)) H := hP
            have hD : va_D A (wAN ct bd 24 (va_up dc n d) ++ wAP ct bv 24 (va_up vo n v) ++ wAP ct bp 24 (va_up pa n o) ++ wAN ct bg 24 (va_up ge n (mkg ge o)) ++ wAN ct bu 24 (va_up un n (mku un (mkg ge o) o v)) ++ wAM ct ba 24 (va_up an n (mka an o)) ++ wA1 ct bm (n + 1)) := hD
            refine lv_iload hx hb dL_make_170 (lv_at hl 0 rfl) ?_
            exact W.iret hx hb hr (fun t ht hW => ⟨⟨_, (), rfl, rfl, by show va_P D vwCl _ t.heap; rw [ht]; exact hP⟩, hS.F ht⟩) hS.2.2 dL_make_172
          · have hl := lv_re (f := fun z9 => [(10, .int (nI n)), (0, .ref bd), (1, .ref bv), (2, .ref bp), (3, .ref bg), (4, .ref bu), (5, .ref ba), (6, .ref bm), (7, .int (nI d)), (8, .int (eP none)), (9, .int z9)]) hl (show eP v = eP none from congrArg eP c139)
            refine lv_iconst (v := nI 3) hx hb dL_make_142 (by decide) ?_
            refine lv_goto (tgt := 151) hx hb dL_make_143 (by decide) ?_
            refine r_iaddN hx hb dL_make_151 ?_
            refine lv_aload_n hx hb dL_make_152 rfl (lv_at hl 4 rfl) ?_
            refine lv_iload hx hb dL_make_153 (lv_at hl 0 rfl) ?_
            refine r_iald (j := n) (v := nI ((va_up ge n (mkg ge o)) n)) hx hb hK.1 hP 3 0 rfl rfl (by omega) (by first | decide | omega) (rfl) dL_make_155 ?_
            have f155 := hTg n
            refine r_top (y := nI (mkg ge o)) (congrArg nI (show ((va_up ge n (mkg ge o)) n) = (mkg ge o) from up_s _ _ _)) ?_
            refine r_iaddN hx hb dL_make_156 ?_
            refine lv_sipush (v := nI 997) hx hb dL_make_157 (by decide) ?_
            refine lv_irem hx hb dL_make_160 (by decide) ?_
            refine r_top (y := nI (((31 + 3) + (mkg ge o)) % 997)) (pk_rem (by omega) (by omega) (by first | omega | decide)) ?_
            refine r_top (y := nI (mku un (mkg ge o) o v)) (congrArg nI (show (((31 + 3) + (mkg ge o)) % 997) = (mku un (mkg ge o) o v) from by simp [mku, c9, c77, c139])) ?_
            refine r_iast (j := n) (x := (nI (mku un (mkg ge o) o v))) (f' := fun q9 => nI ((va_up un n (mku un (mkg ge o) o v)) q9)) hx hb hK.1 hP hD hS 4 0 rfl rfl (by omega) (by first | decide | omega) (up_n _ _ _) dL_make_161 (fun H locs hP hD hS => ?_)
            have hP : va_P D vwCl (wAN ct bd 24 (va_up dc n d) ++ wAP ct bv 24 (va_up vo n v) ++ wAP ct bp 24 (va_up pa n o) ++ wAN ct bg 24 (va_up ge n (mkg ge o)) ++ wAN ct bu 24 (va_up un n (mku un (mkg ge o) o v)) ++ wAM ct ba 24 (va_up an n (mka an o)) ++ wA1 ct bm n) H := hP
            have hD : va_D A (wAN ct bd 24 (va_up dc n d) ++ wAP ct bv 24 (va_up vo n v) ++ wAP ct bp 24 (va_up pa n o) ++ wAN ct bg 24 (va_up ge n (mkg ge o)) ++ wAN ct bu 24 (va_up un n (mku un (mkg ge o) o v)) ++ wAM ct ba 24 (va_up an n (mka an o)) ++ wA1 ct bm n) := hD
            refine lv_aload hx hb dL_make_162 (lv_at hl 7 rfl) ?_
            refine lv_iconst (v := nI 0) hx hb dL_make_164 (by decide) ?_
            refine lv_dup2_11 hx hb dL_make_165 rfl rfl ?_
            refine r_iald (j := 0) (v := nI n) hx hb hK.1 hP 6 0 rfl rfl (by omega) (by first | decide | omega) (rfl) dL_make_166 ?_
            refine lv_iconst (v := nI 1) hx hb dL_make_167 (by decide) ?_
            refine r_iaddN hx hb dL_make_168 ?_
            refine r_iast (j := 0) (x := (nI (n + 1))) (f' := fun j9 => nI (m0 (n + 1) j9)) hx hb hK.1 hP hD hS 6 0 rfl rfl (by decide) (by decide) (m0_up _ _) dL_make_169 (fun H locs hP hD hS => ?_)
            have hP : va_P D vwCl (wAN ct bd 24 (va_up dc n d) ++ wAP ct bv 24 (va_up vo n v) ++ wAP ct bp 24 (va_up pa n o) ++ wAN ct bg 24 (va_up ge n (mkg ge o)) ++ wAN ct bu 24 (va_up un n (mku un (mkg ge o) o v)) ++ wAM ct ba 24 (va_up an n (mka an o)) ++ wA1 ct bm (n + 1)) H := hP
            have hD : va_D A (wAN ct bd 24 (va_up dc n d) ++ wAP ct bv 24 (va_up vo n v) ++ wAP ct bp 24 (va_up pa n o) ++ wAN ct bg 24 (va_up ge n (mkg ge o)) ++ wAN ct bu 24 (va_up un n (mku un (mkg ge o) o v)) ++ wAM ct ba 24 (va_up an n (mka an o)) ++ wA1 ct bm (n + 1)) := hD
            refine lv_iload hx hb dL_make_170 (lv_at hl 0 rfl) ?_
            exact W.iret hx hb hr (fun t ht hW => ⟨⟨_, (), rfl, rfl, by show va_P D vwCl _ t.heap; rw [ht]; exact hP⟩, hS.F ht⟩) hS.2.2 dL_make_172
      · refine lv_aload_n hx hb dL_make_12 rfl (lv_at hl 1 rfl) ?_
        refine lv_iload hx hb dL_make_13 (lv_at hl 0 rfl) ?_
        refine r_iald (j := k) (v := nI (dc k)) hx hb hK.1 hP 0 0 rfl rfl (by omega) (by first | decide | omega) (rfl) dL_make_15 ?_
        have f15 := hTd k
        refine lv_iload hx hb dL_make_16 (lv_at hl 8 rfl) ?_
        refine r_icmp_neN hx hb (x := dc k) (y := d) (by first | omega | decide) (by first | omega | decide) (tgt := 42) dL_make_18 (by decide) (fun c18 => ?_) (fun c18 => ?_)
        · refine lv_iinc (v := nI (k + 1)) (lv' := [(10, .int (nI (k + 1))), (0, .ref bd), (1, .ref bv), (2, .ref bp), (3, .ref bg), (4, .ref bu), (5, .ref ba), (6, .ref bm), (7, .int (nI d)), (8, .int (eP o)), (9, .int (eP v))]) hx hb dL_make_42 hl (k := 0) rfl (nI_1 _) (by decide) rfl (fun ls hl => ?_)
          refine lv_goto (tgt := 3) hx hb dL_make_45 (by decide) ?_
          exact ih3 (k + 1) (by first | assumption | omega) (ffd_no hno (by simp [mkP, c9, c18])) (by omega) H locs ls hP hD hS (lv_sub hl [0, 1, 2, 3, 4, 5, 6, 7, 8, 9, 10] rfl)
        · refine lv_aload_n hx hb dL_make_21 rfl (lv_at hl 3 rfl) ?_
          refine lv_iload hx hb dL_make_22 (lv_at hl 0 rfl) ?_
          refine r_iald (j := k) (v := eP (pa k)) hx hb hK.1 hP 2 0 rfl rfl (by omega) (by first | decide | omega) (rfl) dL_make_24 ?_
          refine lv_iload hx hb dL_make_25 (lv_at hl 9 rfl) ?_
          refine r_icmp_nePP hx hb (x := pa k) (y := o) (by intro j9 h9; first | (have := ho _ h9; omega) | (have := hv _ h9; omega) | (have := hTp _ _ (by omega) h9; omega) | (have := hTv _ _ h9; omega)) (by intro j9 h9; first | (have := ho _ h9; omega) | (have := hv _ h9; omega) | (have := hTp _ _ (by omega) h9; omega) | (have := hTv _ _ h9; omega)) (tgt := 42) dL_make_27 (by decide) (fun c27 => ?_) (fun c27 => ?_)
          · refine lv_iinc (v := nI (k + 1)) (lv' := [(10, .int (nI (k + 1))), (0, .ref bd), (1, .ref bv), (2, .ref bp), (3, .ref bg), (4, .ref bu), (5, .ref ba), (6, .ref bm), (7, .int (nI d)), (8, .int (eP o)), (9, .int (eP v))]) hx hb dL_make_42 hl (k := 0) rfl (nI_1 _) (by decide) rfl (fun ls hl => ?_)
            refine lv_goto (tgt := 3) hx hb dL_make_45 (by decide) ?_
            exact ih3 (k + 1) (by first | assumption | omega) (ffd_no hno (by simp [mkP, c9, c18, c27])) (by omega) H locs ls hP hD hS (lv_sub hl [0, 1, 2, 3, 4, 5, 6, 7, 8, 9, 10] rfl)
          · refine lv_aload_n hx hb dL_make_30 rfl (lv_at hl 2 rfl) ?_
            refine lv_iload hx hb dL_make_31 (lv_at hl 0 rfl) ?_
            refine r_iald (j := k) (v := eP (vo k)) hx hb hK.1 hP 1 0 rfl rfl (by omega) (by first | decide | omega) (rfl) dL_make_33 ?_
            refine lv_iload hx hb dL_make_34 (lv_at hl 10 rfl) ?_
            refine r_icmp_nePP hx hb (x := vo k) (y := v) (by intro j9 h9; first | (have := ho _ h9; omega) | (have := hv _ h9; omega) | (have := hTp _ _ (by omega) h9; omega) | (have := hTv _ _ h9; omega)) (by intro j9 h9; first | (have := ho _ h9; omega) | (have := hv _ h9; omega) | (have := hTp _ _ (by omega) h9; omega) | (have := hTv _ _ h9; omega)) (tgt := 42) dL_make_36 (by decide) (fun c36 => ?_) (fun c36 => ?_)
            · refine lv_iinc (v := nI (k + 1)) (lv' := [(10, .int (nI (k + 1))), (0, .ref bd), (1, .ref bv), (2, .ref bp), (3, .ref bg), (4, .ref bu), (5, .ref ba), (6, .ref bm), (7, .int (nI d)), (8, .int (eP o)), (9, .int (eP v))]) hx hb dL_make_42 hl (k := 0) rfl (nI_1 _) (by decide) rfl (fun ls hl => ?_)
              refine lv_goto (tgt := 3) hx hb dL_make_45 (by decide) ?_
              exact ih3 (k + 1) (by first | assumption | omega) (ffd_no hno (by simp [mkP, c9, c18, c27, c36])) (by omega) H locs ls hP hD hS (lv_sub hl [0, 1, 2, 3, 4, 5, 6, 7, 8, 9, 10] rfl)
            · exact absurd ((ffd_hit (n := n) hno (by simp [mkP, c9, c18, c27, c36]) (by omega)).symm.trans hf) (fun h => by cases h)
  exact key3 ((n - 0) + 1) 0 (by first | assumption | omega) (rfl) (Nat.lt_succ_self _) _ _ ls hP hD hS (lv_sub hl [0, 1, 2, 3, 4, 5, 6, 7, 8, 9, 10] rfl)
set_option maxHeartbeats 1000000 in
set_option maxRecDepth 100000 in
theorem cL_add_old (l : Launch) (D : va_G) (ct : Nat → ClassId) (bd : Nat) (bv : Nat) (bp : Nat) (bg : Nat) (bu : Nat) (ba : Nat) (bt : Nat) (bq : Nat) (bm : Nat) (dc : Nat → Nat) (vo : Nat → Option Nat) (pa : Nat → Option Nat) (ge : Nat → Nat) (un : Nat → Nat) (an : Nat → Nat → Bool) (S : Nat → Nat → Bool) (dp : Nat → Nat) (sq : Nat → Nat) (qq : Nat → Nat) (n : Nat) (i : Nat) (d : Nat) (o : Option Nat) (v : Option Nat) (j : Nat) (hn : n ≤ 24) (hTd : ∀ k, dc k < 4) (hTv : ∀ k j, vo k = some j → j < 100) (hTg : ∀ k, ge k ≤ 150) (hTp : ∀ k j, k < n → pa k = some j → j < k) (hi : i < 3) (hd4 : d < 4) (ho : ∀ j, o = some j → j < n) (hv : ∀ j, v = some j → j < 100) (hdp : dp i ≤ 1000) (hf : ffd (mkP dc vo pa d o v) n = some j) (hjn : j < n) (sz : Nat) : Met l yL_add wsL_add ({ frames := 3, cells := 0, slots := 0, locals := 86 } : Room) (wrPc D ct [.ref bd, .ref bv, .ref bp, .ref bg, .ref bu, .ref ba, .ref bt, .ref bq, .ref bm, .int (nI i), .int (nI d), .int (eP o), .int (eP v)] (wAN ct bd 24 dc ++ wAP ct bv 24 vo ++ wAP ct bp 24 pa ++ wAN ct bg 24 ge ++ wAN ct bu 24 un ++ wAM ct ba 24 an ++ wAT ct bt S dp sq ++ wAN ct bq 12 qq ++ wA1 ct bm n) sz) (wqI D (nI j) (wAN ct bd 24 dc ++ wAP ct bv 24 vo ++ wAP ct bp 24 pa ++ wAN ct bg 24 ge ++ wAN ct bu 24 un ++ wAM ct ba 24 an ++ wAT ct bt (va_up S i (mNd (mOr (S i) (sgl j true)) (dpB dc an ge n (mOr (S i) (sgl j true)) (dp i)))) dp (va_up sq i (sq i + 1)) ++ wAN ct bq 12 (va_up qq ((4 * i) + d) (sq i + 1)) ++ wA1 ct bm n) (va_A (wAN ct bd 24 dc ++ wAP ct bv 24 vo ++ wAP ct bp 24 pa ++ wAN ct bg 24 ge ++ wAN ct bu 24 un ++ wAM ct ba 24 an ++ wAT ct bt S dp sq ++ wAN ct bq 12 qq ++ wA1 ct bm n) sz)) 0 0 (va_A (wAN ct bd 24 dc ++ wAP ct bv 24 vo ++ wAP ct bp 24 pa ++ wAN ct bg 24 ge ++ wAN ct bu 24 un ++ wAM ct ba 24 an ++ wAT ct bt S dp sq ++ wAN ct bq 12 qq ++ wA1 ct bm n) sz) := by
  refine Met.ofW (cc := cL_add) (maxL := 14) (ret := (some .int)) (by decide) rfl ?_
  intro p e s m args below meth c s₁ B hml hv
  obtain ⟨rfl, hsz, hP, hK, hD0⟩ := hv
  have hx := B.exec
  have hb := B.bytes
  have hr := B.returns
  have hts := atoms_spec (ws := wsL_add) B.pre
  have hown : s.vm.findClass RL = some m.cls := findClass_of_methodNamed B.named
  have hlocks := B.notSynchronized
  subst hsz
  have hD := hD0.self (sz := s.heap.size)
  generalize hAe : va_A (wAN ct bd 24 dc ++ wAP ct bv 24 vo ++ wAP ct bp 24 pa ++ wAN ct bg 24 ge ++ wAN ct bu 24 un ++ wAM ct ba 24 an ++ wAT ct bt S dp sq ++ wAN ct bq 12 qq ++ wA1 ct bm n) s.heap.size = A at hD ⊢
  have hA : ∀ q : Nat, s.heap.size ≤ q → A q := fun q h => by rw [← hAe]; exact Or.inr h
  have hS : va_S A s.heap s.heap [] := va_S.rf
  have hP : va_P D vwCl (wAN ct bd 24 dc ++ wAP ct bv 24 vo ++ wAP ct bp 24 pa ++ wAN ct bg 24 ge ++ wAN ct bu 24 un ++ wAM ct ba 24 an ++ wAT ct bt S dp sq ++ wAN ct bq 12 qq ++ wA1 ct bm n) s.heap := hP
  clear hAe hD0
  have hl := lv_entry ([.ref bd, .ref bv, .ref bp, .ref bg, .ref bu, .ref ba, .ref bt, .ref bq, .ref bm, .int (nI i), .int (nI d), .int (eP o), .int (eP v)]) (n := 14) (Nat.le_of_ble_eq_true rfl)
  rw [lg_entry_eq]
  generalize (lg_sl ([.ref bd, .ref bv, .ref bp, .ref bg, .ref bu, .ref ba, .ref bt, .ref bq, .ref bm, .int (nI i), .int (nI d), .int (eP o), .int (eP v)]) ++ List.replicate (14 - (lg_sl ([.ref bd, .ref bv, .ref bp, .ref bg, .ref bu, .ref ba, .ref bt, .ref bq, .ref bm, .int (nI i), .int (nI d), .int (eP o), .int (eP v)])).length) Slot.unset).toArray = ls at hl ⊢
  have hl : lv_has ls 14 [(0, .ref bd), (1, .ref bv), (2, .ref bp), (3, .ref bg), (4, .ref bu), (5, .ref ba), (6, .ref bt), (7, .ref bq), (8, .ref bm), (9, .int (nI i)), (10, .int (nI d)), (11, .int (eP o)), (12, .int (eP v))] := hl
  have hH0 : s.heap.size ≤ s.heap.size := Nat.le_refl _
  refine lv_aload_n hx hb dL_add_0 rfl (lv_at hl 0 rfl) ?_
  refine lv_aload_n hx hb dL_add_1 rfl (lv_at hl 1 rfl) ?_
  refine lv_aload_n hx hb dL_add_2 rfl (lv_at hl 2 rfl) ?_
  refine lv_aload_n hx hb dL_add_3 rfl (lv_at hl 3 rfl) ?_
  refine lv_aload hx hb dL_add_4 (lv_at hl 4 rfl) ?_
  refine lv_aload hx hb dL_add_6 (lv_at hl 5 rfl) ?_
  refine lv_aload hx hb dL_add_8 (lv_at hl 8 rfl) ?_
  refine lv_iload hx hb dL_add_10 (lv_at hl 10 rfl) ?_
  refine lv_iload hx hb dL_add_12 (lv_at hl 11 rfl) ?_
  refine lv_iload hx hb dL_add_14 (lv_at hl 12 rfl) ?_
  refine r_cS (As := [.ref bd, .ref bv, .ref bp, .ref bg, .ref bu, .ref ba, .ref bm, .int (nI d), .int (eP o), .int (eP v)]) (rest := []) ⟨hx, hb, hml, hown, hts⟩ (cL_make_old l D ct bd bv bp bg bu ba bm dc vo pa ge un an n d o v j (by first | assumption | omega) (by first | assumption | omega) (by first | assumption | omega) (by first | assumption | omega) (by first | assumption | omega) (by first | assumption | omega) (by first | assumption | omega) (by first | assumption | omega)) (va_cwS 10 hts gL_add_L_make rfl rfl rfl (by decide +kernel) ⟨Nat.le_of_ble_eq_true rfl, Nat.le_of_ble_eq_true rfl⟩) hK (hP.sub (ws' := wAN ct bd 24 dc ++ wAP ct bv 24 vo ++ wAP ct bp 24 pa ++ wAN ct bg 24 ge ++ wAN ct bu 24 un ++ wAM ct ba 24 an ++ wA1 ct bm n) [0, 1, 2, 3, 4, 5, 8] rfl) rfl hl.1 rfl (Nat.le_of_ble_eq_true rfl) dL_add_16 ⟨Nat.le_of_ble_eq_true rfl, Nat.le_of_ble_eq_true rfl⟩ ?_
  refine lv_istore (lv' := [(13, .int (nI j)), (0, .ref bd), (1, .ref bv), (2, .ref bp), (3, .ref bg), (4, .ref bu), (5, .ref ba), (6, .ref bt), (7, .ref bq), (8, .ref bm), (9, .int (nI i)), (10, .int (nI d)), (11, .int (eP o)), (12, .int (eP v))]) hx hb dL_add_19 hl (by decide) rfl (fun ls hl => ?_)
  refine lv_aload hx hb dL_add_21 (lv_at hl 7 rfl) ?_
  refine lv_iload hx hb dL_add_23 (lv_at hl 10 rfl) ?_
  refine lv_dup2_11 hx hb dL_add_25 rfl rfl ?_
  refine r_iald (j := i) (v := mM (S i)) hx hb hK.1 hP 6 0 rfl rfl (by omega) (by first | decide | omega) (tF_S (by omega)) dL_add_26 ?_
  refine lv_iconst (v := nI 1) hx hb dL_add_27 (by decide) ?_
  refine lv_iload hx hb dL_add_28 (lv_at hl 0 rfl) ?_
  refine lv_ishl hx hb dL_add_30 ?_
  refine r_top (y := mM (sgl j true)) (mM_shl1 (by omega)) ?_
  refine lv_ior hx hb dL_add_31 ?_
  refine r_top (y := mM (mOr (S i) (sgl j true))) (mM_or _ _) ?_
  refine r_iast (j := i) (x := (mM (mOr (S i) (sgl j true)))) (f' := tF (va_up S i (mOr (S i) (sgl j true))) dp sq) hx hb hK.1 hP hD hS 6 0 rfl rfl (by omega) (by decide) (tU_S (by omega)) dL_add_32 (fun H locs hP hD hS => ?_)
  have hP : va_P D vwCl (wAN ct bd 24 dc ++ wAP ct bv 24 vo ++ wAP ct bp 24 pa ++ wAN ct bg 24 ge ++ wAN ct bu 24 un ++ wAM ct ba 24 an ++ wAT ct bt (va_up S i (mOr (S i) (sgl j true))) dp sq ++ wAN ct bq 12 qq ++ wA1 ct bm n) H := hP
  have hD : va_D A (wAN ct bd 24 dc ++ wAP ct bv 24 vo ++ wAP ct bp 24 pa ++ wAN ct bg 24 ge ++ wAN ct bu 24 un ++ wAM ct ba 24 an ++ wAT ct bt (va_up S i (mOr (S i) (sgl j true))) dp sq ++ wAN ct bq 12 qq ++ wA1 ct bm n) := hD
  refine lv_aload hx hb dL_add_33 (lv_at hl 7 rfl) ?_
  refine lv_bipush (v := nI 8) hx hb dL_add_35 (by decide) ?_
  refine lv_iload hx hb dL_add_37 (lv_at hl 10 rfl) ?_
  refine r_iaddN hx hb dL_add_39 ?_
  refine lv_dup2_11 hx hb dL_add_40 rfl rfl ?_
  refine r_iald (j := 8 + i) (v := nI (sq i)) hx hb hK.1 hP 6 0 rfl rfl (by omega) (by first | decide | omega) (tF_s) dL_add_41 ?_
  refine lv_iconst (v := nI 1) hx hb dL_add_42 (by decide) ?_
  refine r_iaddN hx hb dL_add_43 ?_
  refine r_iast (j := 8 + i) (x := (nI ((sq i) + 1))) (f' := tF (va_up S i (mOr (S i) (sgl j true))) dp (va_up sq i ((sq i) + 1))) hx hb hK.1 hP hD hS 6 0 rfl rfl (by omega) (by decide) (tU_s) dL_add_44 (fun H locs hP hD hS => ?_)
  have hP : va_P D vwCl (wAN ct bd 24 dc ++ wAP ct bv 24 vo ++ wAP ct bp 24 pa ++ wAN ct bg 24 ge ++ wAN ct bu 24 un ++ wAM ct ba 24 an ++ wAT ct bt (va_up S i (mOr (S i) (sgl j true))) dp (va_up sq i ((sq i) + 1)) ++ wAN ct bq 12 qq ++ wA1 ct bm n) H := hP
  have hD : va_D A (wAN ct bd 24 dc ++ wAP ct bv 24 vo ++ wAP ct bp 24 pa ++ wAN ct bg 24 ge ++ wAN ct bu 24 un ++ wAM ct ba 24 an ++ wAT ct bt (va_up S i (mOr (S i) (sgl j true))) dp (va_up sq i ((sq i) + 1)) ++ wAN ct bq 12 qq ++ wA1 ct bm n) := hD
  refine lv_aload hx hb dL_add_45 (lv_at hl 8 rfl) ?_
  refine lv_iconst (v := nI 4) hx hb dL_add_47 (by decide) ?_
  refine lv_iload hx hb dL_add_48 (lv_at hl 10 rfl) ?_
  refine r_imulN hx hb dL_add_50 ?_
  refine lv_iload hx hb dL_add_51 (lv_at hl 11 rfl) ?_
  refine r_iaddN hx hb dL_add_53 ?_
  refine lv_aload hx hb dL_add_54 (lv_at hl 7 rfl) ?_
  refine lv_bipush (v := nI 8) hx hb dL_add_56 (by decide) ?_
  refine lv_iload hx hb dL_add_58 (lv_at hl 10 rfl) ?_
  refine r_iaddN hx hb dL_add_60 ?_
  refine r_iald (j := 8 + i) (v := nI ((va_up sq i ((sq i) + 1)) i)) hx hb hK.1 hP 6 0 rfl rfl (by omega) (by first | decide | omega) (tF_s) dL_add_61 ?_
  refine r_iast (j := (4 * i) + d) (x := (nI ((va_up sq i ((sq i) + 1)) i))) (f' := fun q9 => nI ((va_up qq ((4 * i) + d) ((va_up sq i ((sq i) + 1)) i)) q9)) hx hb hK.1 hP hD hS 7 0 rfl rfl (by omega) (by first | decide | omega) (up_n _ _ _) dL_add_62 (fun H locs hP hD hS => ?_)
  have hP : va_P D vwCl (wAN ct bd 24 dc ++ wAP ct bv 24 vo ++ wAP ct bp 24 pa ++ wAN ct bg 24 ge ++ wAN ct bu 24 un ++ wAM ct ba 24 an ++ wAT ct bt (va_up S i (mOr (S i) (sgl j true))) dp (va_up sq i ((sq i) + 1)) ++ wAN ct bq 12 (va_up qq ((4 * i) + d) ((va_up sq i ((sq i) + 1)) i)) ++ wA1 ct bm n) H := hP
  have hD : va_D A (wAN ct bd 24 dc ++ wAP ct bv 24 vo ++ wAP ct bp 24 pa ++ wAN ct bg 24 ge ++ wAN ct bu 24 un ++ wAM ct ba 24 an ++ wAT ct bt (va_up S i (mOr (S i) (sgl j true))) dp (va_up sq i ((sq i) + 1)) ++ wAN ct bq 12 (va_up qq ((4 * i) + d) ((va_up sq i ((sq i) + 1)) i)) ++ wA1 ct bm n) := hD
  refine lv_aload_n hx hb dL_add_63 rfl (lv_at hl 1 rfl) ?_
  refine lv_aload_n hx hb dL_add_64 rfl (lv_at hl 4 rfl) ?_
  refine lv_aload hx hb dL_add_65 (lv_at hl 6 rfl) ?_
  refine lv_aload hx hb dL_add_67 (lv_at hl 7 rfl) ?_
  refine lv_aload hx hb dL_add_69 (lv_at hl 9 rfl) ?_
  refine lv_iload hx hb dL_add_71 (lv_at hl 10 rfl) ?_
  refine r_wSi (As := [.ref bd, .ref bg, .ref ba, .ref bt, .ref bm, .int (nI i)]) (rest := []) ⟨hx, hb, hml, hown, hts⟩ (cL_stem_ok l D ct bd bg ba bt bm dc ge an (va_up S i (mOr (S i) (sgl j true))) dp (va_up sq i ((sq i) + 1)) n i (by first | assumption | omega) (by first | assumption | omega) (by first | assumption | omega) (by first | assumption | omega) (by first | assumption | omega) H.size) (va_cwS 6 hts gL_add_L_stem rfl rfl rfl (by decide +kernel) ⟨Nat.le_of_ble_eq_true rfl, Nat.le_of_ble_eq_true rfl⟩) hK hP hD hS hA [0, 3, 5, 6, 8] rfl rfl rfl rfl hl.1 rfl (Nat.le_of_ble_eq_true rfl) dL_add_73 ⟨Nat.le_of_ble_eq_true rfl, Nat.le_of_ble_eq_true rfl⟩ (fun H locs hP hD hS => ?_)
  have hP : va_P D vwCl (wAN ct bd 24 dc ++ wAP ct bv 24 vo ++ wAP ct bp 24 pa ++ wAN ct bg 24 ge ++ wAN ct bu 24 un ++ wAM ct ba 24 an ++ wAT ct bt (va_up (va_up S i (mOr (S i) (sgl j true))) i (mNd ((va_up S i (mOr (S i) (sgl j true))) i) (dpB dc an ge n ((va_up S i (mOr (S i) (sgl j true))) i) (dp i)))) dp (va_up sq i ((sq i) + 1)) ++ wAN ct bq 12 (va_up qq ((4 * i) + d) ((va_up sq i ((sq i) + 1)) i)) ++ wA1 ct bm n) H := hP
  have hD : va_D A (wAN ct bd 24 dc ++ wAP ct bv 24 vo ++ wAP ct bp 24 pa ++ wAN ct bg 24 ge ++ wAN ct bu 24 un ++ wAM ct ba 24 an ++ wAT ct bt (va_up (va_up S i (mOr (S i) (sgl j true))) i (mNd ((va_up S i (mOr (S i) (sgl j true))) i) (dpB dc an ge n ((va_up S i (mOr (S i) (sgl j true))) i) (dp i)))) dp (va_up sq i ((sq i) + 1)) ++ wAN ct bq 12 (va_up qq ((4 * i) + d) ((va_up sq i ((sq i) + 1)) i)) ++ wA1 ct bm n) := hD
  refine lv_if_ge (x := nI (fct (dpB dc an ge n ((va_up S i (mOr (S i) (sgl j true))) i) (dp i)) 24)) (tgt := 83) hx hb dL_add_76 (by decide) (fun _ => ?_) (fun h => absurd (nI_pos' (Nat.lt_of_le_of_lt (fct_le _ _) (by decide))) h)
  refine lv_iload hx hb dL_add_83 (lv_at hl 0 rfl) ?_
  have e9 : (va_up (va_up S i (mOr (S i) (sgl j true))) i (mNd ((va_up S i (mOr (S i) (sgl j true))) i) (dpB dc an ge n ((va_up S i (mOr (S i) (sgl j true))) i) (dp i)))) = (va_up S i (mNd (mOr (S i) (sgl j true)) (dpB dc an ge n (mOr (S i) (sgl j true)) (dp i)))) := by rw [up_s, up_up]
  have hP := (congrArg (fun z9 => va_P D vwCl (wAN ct bd 24 dc ++ wAP ct bv 24 vo ++ wAP ct bp 24 pa ++ wAN ct bg 24 ge ++ wAN ct bu 24 un ++ wAM ct ba 24 an ++ wAT ct bt z9 dp (va_up sq i ((sq i) + 1)) ++ wAN ct bq 12 (va_up qq ((4 * i) + d) ((va_up sq i ((sq i) + 1)) i)) ++ wA1 ct bm n) H) e9).mp hP
  have e9 : (va_up qq ((4 * i) + d) ((va_up sq i ((sq i) + 1)) i)) = (va_up qq ((4 * i) + d) (sq i + 1)) := by rw [up_s]
  have hP := (congrArg (fun z9 => va_P D vwCl (wAN ct bd 24 dc ++ wAP ct bv 24 vo ++ wAP ct bp 24 pa ++ wAN ct bg 24 ge ++ wAN ct bu 24 un ++ wAM ct ba 24 an ++ wAT ct bt (va_up S i (mNd (mOr (S i) (sgl j true)) (dpB dc an ge n (mOr (S i) (sgl j true)) (dp i)))) dp (va_up sq i (sq i + 1)) ++ wAN ct bq 12 z9 ++ wA1 ct bm n) H) e9).mp hP
  have hP : va_P D vwCl (wAN ct bd 24 dc ++ wAP ct bv 24 vo ++ wAP ct bp 24 pa ++ wAN ct bg 24 ge ++ wAN ct bu 24 un ++ wAM ct ba 24 an ++ wAT ct bt (va_up S i (mNd (mOr (S i) (sgl j true)) (dpB dc an ge n (mOr (S i) (sgl j true)) (dp i)))) dp (va_up sq i (sq i + 1)) ++ wAN ct bq 12 (va_up qq ((4 * i) + d) (sq i + 1)) ++ wA1 ct bm n) H := hP
  exact W.iret hx hb hr (fun t ht hW => ⟨⟨_, (), rfl, rfl, by show va_P D vwCl _ t.heap; rw [ht]; exact hP⟩, hS.F ht⟩) hS.2.2 dL_add_85
set_option maxHeartbeats 1000000 in
set_option maxRecDepth 100000 in
theorem cL_add_new (l : Launch) (D : va_G) (ct : Nat → ClassId) (bd : Nat) (bv : Nat) (bp : Nat) (bg : Nat) (bu : Nat) (ba : Nat) (bt : Nat) (bq : Nat) (bm : Nat) (dc : Nat → Nat) (vo : Nat → Option Nat) (pa : Nat → Option Nat) (ge : Nat → Nat) (un : Nat → Nat) (an : Nat → Nat → Bool) (S : Nat → Nat → Bool) (dp : Nat → Nat) (sq : Nat → Nat) (qq : Nat → Nat) (n : Nat) (i : Nat) (d : Nat) (o : Option Nat) (v : Option Nat) (hn9 : n < 24) (hTd : ∀ k, dc k < 4) (hTv : ∀ k j, vo k = some j → j < 100) (hTg : ∀ k, ge k ≤ 150) (hTu : ∀ k, un k < 997) (hTp : ∀ k j, k < n → pa k = some j → j < k) (hi : i < 3) (hd4 : d < 4) (ho : ∀ j, o = some j → j < n) (hv : ∀ j, v = some j → j < 100) (hdp : dp i ≤ 1000) (hg1 : mkg ge o ≤ 150) (hf : ffd (mkP dc vo pa d o v) n = none) (sz : Nat) : Met l yL_add wsL_add ({ frames := 3, cells := 0, slots := 0, locals := 86 } : Room) (wrPc D ct [.ref bd, .ref bv, .ref bp, .ref bg, .ref bu, .ref ba, .ref bt, .ref bq, .ref bm, .int (nI i), .int (nI d), .int (eP o), .int (eP v)] (wAN ct bd 24 dc ++ wAP ct bv 24 vo ++ wAP ct bp 24 pa ++ wAN ct bg 24 ge ++ wAN ct bu 24 un ++ wAM ct ba 24 an ++ wAT ct bt S dp sq ++ wAN ct bq 12 qq ++ wA1 ct bm n) sz) (wqI D (nI n) (wAN ct bd 24 (va_up dc n d) ++ wAP ct bv 24 (va_up vo n v) ++ wAP ct bp 24 (va_up pa n o) ++ wAN ct bg 24 (va_up ge n (mkg ge o)) ++ wAN ct bu 24 (va_up un n (mku un (mkg ge o) o v)) ++ wAM ct ba 24 (va_up an n (mka an o)) ++ wAT ct bt (va_up S i (mNd (mOr (S i) (sgl n true)) (dpB (va_up dc n d) (va_up an n (mka an o)) (va_up ge n (mkg ge o)) (n + 1) (mOr (S i) (sgl n true)) (dp i)))) dp (va_up sq i (sq i + 1)) ++ wAN ct bq 12 (va_up qq ((4 * i) + d) (sq i + 1)) ++ wA1 ct bm (n + 1)) (va_A (wAN ct bd 24 dc ++ wAP ct bv 24 vo ++ wAP ct bp 24 pa ++ wAN ct bg 24 ge ++ wAN ct bu 24 un ++ wAM ct ba 24 an ++ wAT ct bt S dp sq ++ wAN ct bq 12 qq ++ wA1 ct bm n) sz)) 0 0 (va_A (wAN ct bd 24 dc ++ wAP ct bv 24 vo ++ wAP ct bp 24 pa ++ wAN ct bg 24 ge ++ wAN ct bu 24 un ++ wAM ct ba 24 an ++ wAT ct bt S dp sq ++ wAN ct bq 12 qq ++ wA1 ct bm n) sz) := by
  refine Met.ofW (cc := cL_add) (maxL := 14) (ret := (some .int)) (by decide) rfl ?_
  intro p e s m args below meth c s₁ B hml hv
  obtain ⟨rfl, hsz, hP, hK, hD0⟩ := hv
  have hx := B.exec
  have hb := B.bytes
  have hr := B.returns
  have hts := atoms_spec (ws := wsL_add) B.pre
  have hown : s.vm.findClass RL = some m.cls := findClass_of_methodNamed B.named
  have hlocks := B.notSynchronized
  subst hsz
  have hD := hD0.self (sz := s.heap.size)
  generalize hAe : va_A (wAN ct bd 24 dc ++ wAP ct bv 24 vo ++ wAP ct bp 24 pa ++ wAN ct bg 24 ge ++ wAN ct bu 24 un ++ wAM ct ba 24 an ++ wAT ct bt S dp sq ++ wAN ct bq 12 qq ++ wA1 ct bm n) s.heap.size = A at hD ⊢
  have hA : ∀ q : Nat, s.heap.size ≤ q → A q := fun q h => by rw [← hAe]; exact Or.inr h
  have hS : va_S A s.heap s.heap [] := va_S.rf
  have hP : va_P D vwCl (wAN ct bd 24 dc ++ wAP ct bv 24 vo ++ wAP ct bp 24 pa ++ wAN ct bg 24 ge ++ wAN ct bu 24 un ++ wAM ct ba 24 an ++ wAT ct bt S dp sq ++ wAN ct bq 12 qq ++ wA1 ct bm n) s.heap := hP
  clear hAe hD0
  have hl := lv_entry ([.ref bd, .ref bv, .ref bp, .ref bg, .ref bu, .ref ba, .ref bt, .ref bq, .ref bm, .int (nI i), .int (nI d), .int (eP o), .int (eP v)]) (n := 14) (Nat.le_of_ble_eq_true rfl)
  rw [lg_entry_eq]
  generalize (lg_sl ([.ref bd, .ref bv, .ref bp, .ref bg, .ref bu, .ref ba, .ref bt, .ref bq, .ref bm, .int (nI i), .int (nI d), .int (eP o), .int (eP v)]) ++ List.replicate (14 - (lg_sl ([.ref bd, .ref bv, .ref bp, .ref bg, .ref bu, .ref ba, .ref bt, .ref bq, .ref bm, .int (nI i), .int (nI d), .int (eP o), .int (eP v)])).length) Slot.unset).toArray = ls at hl ⊢
  have hl : lv_has ls 14 [(0, .ref bd), (1, .ref bv), (2, .ref bp), (3, .ref bg), (4, .ref bu), (5, .ref ba), (6, .ref bt), (7, .ref bq), (8, .ref bm), (9, .int (nI i)), (10, .int (nI d)), (11, .int (eP o)), (12, .int (eP v))] := hl
  have hH0 : s.heap.size ≤ s.heap.size := Nat.le_refl _
  refine lv_aload_n hx hb dL_add_0 rfl (lv_at hl 0 rfl) ?_
  refine lv_aload_n hx hb dL_add_1 rfl (lv_at hl 1 rfl) ?_
  refine lv_aload_n hx hb dL_add_2 rfl (lv_at hl 2 rfl) ?_
  refine lv_aload_n hx hb dL_add_3 rfl (lv_at hl 3 rfl) ?_
  refine lv_aload hx hb dL_add_4 (lv_at hl 4 rfl) ?_
  refine lv_aload hx hb dL_add_6 (lv_at hl 5 rfl) ?_
  refine lv_aload hx hb dL_add_8 (lv_at hl 8 rfl) ?_
  refine lv_iload hx hb dL_add_10 (lv_at hl 10 rfl) ?_
  refine lv_iload hx hb dL_add_12 (lv_at hl 11 rfl) ?_
  refine lv_iload hx hb dL_add_14 (lv_at hl 12 rfl) ?_
  refine r_wSi (As := [.ref bd, .ref bv, .ref bp, .ref bg, .ref bu, .ref ba, .ref bm, .int (nI d), .int (eP o), .int (eP v)]) (rest := []) ⟨hx, hb, hml, hown, hts⟩ (cL_make_new l D ct bd bv bp bg bu ba bm dc vo pa ge un an n d o v (by first | assumption | omega) (by first | assumption | omega) (by first | assumption | omega) (by first | assumption | omega) (by first | assumption | omega) (by first | assumption | omega) (by first | assumption | omega) (by first | assumption | omega) (by first | assumption | omega) (by first | assumption | omega) s.heap.size) (va_cwS 10 hts gL_add_L_make rfl rfl rfl (by decide +kernel) ⟨Nat.le_of_ble_eq_true rfl, Nat.le_of_ble_eq_true rfl⟩) hK hP hD hS hA [0, 1, 2, 3, 4, 5, 8] rfl rfl rfl rfl hl.1 rfl (Nat.le_of_ble_eq_true rfl) dL_add_16 ⟨Nat.le_of_ble_eq_true rfl, Nat.le_of_ble_eq_true rfl⟩ (fun H locs hP hD hS => ?_)
  have hP : va_P D vwCl (wAN ct bd 24 (va_up dc n d) ++ wAP ct bv 24 (va_up vo n v) ++ wAP ct bp 24 (va_up pa n o) ++ wAN ct bg 24 (va_up ge n (mkg ge o)) ++ wAN ct bu 24 (va_up un n (mku un (mkg ge o) o v)) ++ wAM ct ba 24 (va_up an n (mka an o)) ++ wAT ct bt S dp sq ++ wAN ct bq 12 qq ++ wA1 ct bm (n + 1)) H := hP
  have hD : va_D A (wAN ct bd 24 (va_up dc n d) ++ wAP ct bv 24 (va_up vo n v) ++ wAP ct bp 24 (va_up pa n o) ++ wAN ct bg 24 (va_up ge n (mkg ge o)) ++ wAN ct bu 24 (va_up un n (mku un (mkg ge o) o v)) ++ wAM ct ba 24 (va_up an n (mka an o)) ++ wAT ct bt S dp sq ++ wAN ct bq 12 qq ++ wA1 ct bm (n + 1)) := hD
  refine lv_istore (lv' := [(13, .int (nI n)), (0, .ref bd), (1, .ref bv), (2, .ref bp), (3, .ref bg), (4, .ref bu), (5, .ref ba), (6, .ref bt), (7, .ref bq), (8, .ref bm), (9, .int (nI i)), (10, .int (nI d)), (11, .int (eP o)), (12, .int (eP v))]) hx hb dL_add_19 hl (by decide) rfl (fun ls hl => ?_)
  refine lv_aload hx hb dL_add_21 (lv_at hl 7 rfl) ?_
  refine lv_iload hx hb dL_add_23 (lv_at hl 10 rfl) ?_
  refine lv_dup2_11 hx hb dL_add_25 rfl rfl ?_
  refine r_iald (j := i) (v := mM (S i)) hx hb hK.1 hP 6 0 rfl rfl (by omega) (by first | decide | omega) (tF_S (by omega)) dL_add_26 ?_
  refine lv_iconst (v := nI 1) hx hb dL_add_27 (by decide) ?_
  refine lv_iload hx hb dL_add_28 (lv_at hl 0 rfl) ?_
  refine lv_ishl hx hb dL_add_30 ?_
  refine r_top (y := mM (sgl n true)) (mM_shl1 (by omega)) ?_
  refine lv_ior hx hb dL_add_31 ?_
  refine r_top (y := mM (mOr (S i) (sgl n true))) (mM_or _ _) ?_
  refine r_iast (j := i) (x := (mM (mOr (S i) (sgl n true)))) (f' := tF (va_up S i (mOr (S i) (sgl n true))) dp sq) hx hb hK.1 hP hD hS 6 0 rfl rfl (by omega) (by decide) (tU_S (by omega)) dL_add_32 (fun H locs hP hD hS => ?_)
  have hP : va_P D vwCl (wAN ct bd 24 (va_up dc n d) ++ wAP ct bv 24 (va_up vo n v) ++ wAP ct bp 24 (va_up pa n o) ++ wAN ct bg 24 (va_up ge n (mkg ge o)) ++ wAN ct bu 24 (va_up un n (mku un (mkg ge o) o v)) ++ wAM ct ba 24 (va_up an n (mka an o)) ++ wAT ct bt (va_up S i (mOr (S i) (sgl n true))) dp sq ++ wAN ct bq 12 qq ++ wA1 ct bm (n + 1)) H := hP
  have hD : va_D A (wAN ct bd 24 (va_up dc n d) ++ wAP ct bv 24 (va_up vo n v) ++ wAP ct bp 24 (va_up pa n o) ++ wAN ct bg 24 (va_up ge n (mkg ge o)) ++ wAN ct bu 24 (va_up un n (mku un (mkg ge o) o v)) ++ wAM ct ba 24 (va_up an n (mka an o)) ++ wAT ct bt (va_up S i (mOr (S i) (sgl n true))) dp sq ++ wAN ct bq 12 qq ++ wA1 ct bm (n + 1)) := hD
  refine lv_aload hx hb dL_add_33 (lv_at hl 7 rfl) ?_
  refine lv_bipush (v := nI 8) hx hb dL_add_35 (by decide) ?_
  refine lv_iload hx hb dL_add_37 (lv_at hl 10 rfl) ?_
  refine r_iaddN hx hb dL_add_39 ?_
  refine lv_dup2_11 hx hb dL_add_40 rfl rfl ?_
  refine r_iald (j := 8 + i) (v := nI (sq i)) hx hb hK.1 hP 6 0 rfl rfl (by omega) (by first | decide | omega) (tF_s) dL_add_41 ?_
  refine lv_iconst (v := nI 1) hx hb dL_add_42 (by decide) ?_
  refine r_iaddN hx hb dL_add_43 ?_
  refine r_iast (j := 8 + i) (x := (nI ((sq i) + 1))) (f' := tF (va_up S i (mOr (S i) (sgl n true))) dp (va_up sq i ((sq i) + 1))) hx hb hK.1 hP hD hS 6 0 rfl rfl (by omega) (by decide) (tU_s) dL_add_44 (fun H locs hP hD hS => ?_)
  have hP : va_P D vwCl (wAN ct bd 24 (va_up dc n d) ++ wAP ct bv 24 (va_up vo n v) ++ wAP ct bp 24 (va_up pa n o) ++ wAN ct bg 24 (va_up ge n (mkg ge o)) ++ wAN ct bu 24 (va_up un n (mku un (mkg ge o) o v)) ++ wAM ct ba 24 (va_up an n (mka an o)) ++ wAT ct bt (va_up S i (mOr (S i) (sgl n true))) dp (va_up sq i ((sq i) + 1)) ++ wAN ct bq 12 qq ++ wA1 ct bm (n + 1)) H := hP
  have hD : va_D A (wAN ct bd 24 (va_up dc n d) ++ wAP ct bv 24 (va_up vo n v) ++ wAP ct bp 24 (va_up pa n o) ++ wAN ct bg 24 (va_up ge n (mkg ge o)) ++ wAN ct bu 24 (va_up un n (mku un (mkg ge o) o v)) ++ wAM ct ba 24 (va_up an n (mka an o)) ++ wAT ct bt (va_up S i (mOr (S i) (sgl n true))) dp (va_up sq i ((sq i) + 1)) ++ wAN ct bq 12 qq ++ wA1 ct bm (n + 1)) := hD
  refine lv_aload hx hb dL_add_45 (lv_at hl 8 rfl) ?_
  refine lv_iconst (v := nI 4) hx hb dL_add_47 (by decide) ?_
  refine lv_iload hx hb dL_add_48 (lv_at hl 10 rfl) ?_
  refine r_imulN hx hb dL_add_50 ?_
  refine lv_iload hx hb dL_add_51 (lv_at hl 11 rfl) ?_
  refine r_iaddN hx hb dL_add_53 ?_
  refine lv_aload hx hb dL_add_54 (lv_at hl 7 rfl) ?_
  refine lv_bipush (v := nI 8) hx hb dL_add_56 (by decide) ?_
  refine lv_iload hx hb dL_add_58 (lv_at hl 10 rfl) ?_
  refine r_iaddN hx hb dL_add_60 ?_
  refine r_iald (j := 8 + i) (v := nI ((va_up sq i ((sq i) + 1)) i)) hx hb hK.1 hP 6 0 rfl rfl (by omega) (by first | decide | omega) (tF_s) dL_add_61 ?_
  refine r_iast (j := (4 * i) + d) (x := (nI ((va_up sq i ((sq i) + 1)) i))) (f' := fun q9 => nI ((va_up qq ((4 * i) + d) ((va_up sq i ((sq i) + 1)) i)) q9)) hx hb hK.1 hP hD hS 7 0 rfl rfl (by omega) (by first | decide | omega) (up_n _ _ _) dL_add_62 (fun H locs hP hD hS => ?_)
  have hP : va_P D vwCl (wAN ct bd 24 (va_up dc n d) ++ wAP ct bv 24 (va_up vo n v) ++ wAP ct bp 24 (va_up pa n o) ++ wAN ct bg 24 (va_up ge n (mkg ge o)) ++ wAN ct bu 24 (va_up un n (mku un (mkg ge o) o v)) ++ wAM ct ba 24 (va_up an n (mka an o)) ++ wAT ct bt (va_up S i (mOr (S i) (sgl n true))) dp (va_up sq i ((sq i) + 1)) ++ wAN ct bq 12 (va_up qq ((4 * i) + d) ((va_up sq i ((sq i) + 1)) i)) ++ wA1 ct bm (n + 1)) H := hP
  have hD : va_D A (wAN ct bd 24 (va_up dc n d) ++ wAP ct bv 24 (va_up vo n v) ++ wAP ct bp 24 (va_up pa n o) ++ wAN ct bg 24 (va_up ge n (mkg ge o)) ++ wAN ct bu 24 (va_up un n (mku un (mkg ge o) o v)) ++ wAM ct ba 24 (va_up an n (mka an o)) ++ wAT ct bt (va_up S i (mOr (S i) (sgl n true))) dp (va_up sq i ((sq i) + 1)) ++ wAN ct bq 12 (va_up qq ((4 * i) + d) ((va_up sq i ((sq i) + 1)) i)) ++ wA1 ct bm (n + 1)) := hD
  refine lv_aload_n hx hb dL_add_63 rfl (lv_at hl 1 rfl) ?_
  refine lv_aload_n hx hb dL_add_64 rfl (lv_at hl 4 rfl) ?_
  refine lv_aload hx hb dL_add_65 (lv_at hl 6 rfl) ?_
  refine lv_aload hx hb dL_add_67 (lv_at hl 7 rfl) ?_
  refine lv_aload hx hb dL_add_69 (lv_at hl 9 rfl) ?_
  refine lv_iload hx hb dL_add_71 (lv_at hl 10 rfl) ?_
  refine r_wSi (As := [.ref bd, .ref bg, .ref ba, .ref bt, .ref bm, .int (nI i)]) (rest := []) ⟨hx, hb, hml, hown, hts⟩ (cL_stem_ok l D ct bd bg ba bt bm (va_up dc n d) (va_up ge n (mkg ge o)) (va_up an n (mka an o)) (va_up S i (mOr (S i) (sgl n true))) dp (va_up sq i ((sq i) + 1)) (n + 1) i (by first | assumption | omega) (up_Td hTd hd4) (up_Tg hTg hg1) (by first | assumption | omega) (by first | assumption | omega) H.size) (va_cwS 6 hts gL_add_L_stem rfl rfl rfl (by decide +kernel) ⟨Nat.le_of_ble_eq_true rfl, Nat.le_of_ble_eq_true rfl⟩) hK hP hD hS hA [0, 3, 5, 6, 8] rfl rfl rfl rfl hl.1 rfl (Nat.le_of_ble_eq_true rfl) dL_add_73 ⟨Nat.le_of_ble_eq_true rfl, Nat.le_of_ble_eq_true rfl⟩ (fun H locs hP hD hS => ?_)
  have hP : va_P D vwCl (wAN ct bd 24 (va_up dc n d) ++ wAP ct bv 24 (va_up vo n v) ++ wAP ct bp 24 (va_up pa n o) ++ wAN ct bg 24 (va_up ge n (mkg ge o)) ++ wAN ct bu 24 (va_up un n (mku un (mkg ge o) o v)) ++ wAM ct ba 24 (va_up an n (mka an o)) ++ wAT ct bt (va_up (va_up S i (mOr (S i) (sgl n true))) i (mNd ((va_up S i (mOr (S i) (sgl n true))) i) (dpB (va_up dc n d) (va_up an n (mka an o)) (va_up ge n (mkg ge o)) (n + 1) ((va_up S i (mOr (S i) (sgl n true))) i) (dp i)))) dp (va_up sq i ((sq i) + 1)) ++ wAN ct bq 12 (va_up qq ((4 * i) + d) ((va_up sq i ((sq i) + 1)) i)) ++ wA1 ct bm (n + 1)) H := hP
  have hD : va_D A (wAN ct bd 24 (va_up dc n d) ++ wAP ct bv 24 (va_up vo n v) ++ wAP ct bp 24 (va_up pa n o) ++ wAN ct bg 24 (va_up ge n (mkg ge o)) ++ wAN ct bu 24 (va_up un n (mku un (mkg ge o) o v)) ++ wAM ct ba 24 (va_up an n (mka an o)) ++ wAT ct bt (va_up (va_up S i (mOr (S i) (sgl n true))) i (mNd ((va_up S i (mOr (S i) (sgl n true))) i) (dpB (va_up dc n d) (va_up an n (mka an o)) (va_up ge n (mkg ge o)) (n + 1) ((va_up S i (mOr (S i) (sgl n true))) i) (dp i)))) dp (va_up sq i ((sq i) + 1)) ++ wAN ct bq 12 (va_up qq ((4 * i) + d) ((va_up sq i ((sq i) + 1)) i)) ++ wA1 ct bm (n + 1)) := hD
  refine lv_if_ge (x := nI (fct (dpB (va_up dc n d) (va_up an n (mka an o)) (va_up ge n (mkg ge o)) (n + 1) ((va_up S i (mOr (S i) (sgl n true))) i) (dp i)) 24)) (tgt := 83) hx hb dL_add_76 (by decide) (fun _ => ?_) (fun h => absurd (nI_pos' (Nat.lt_of_le_of_lt (fct_le _ _) (by decide))) h)
  refine lv_iload hx hb dL_add_83 (lv_at hl 0 rfl) ?_
  have e9 : (va_up (va_up S i (mOr (S i) (sgl n true))) i (mNd ((va_up S i (mOr (S i) (sgl n true))) i) (dpB (va_up dc n d) (va_up an n (mka an o)) (va_up ge n (mkg ge o)) (n + 1) ((va_up S i (mOr (S i) (sgl n true))) i) (dp i)))) = (va_up S i (mNd (mOr (S i) (sgl n true)) (dpB (va_up dc n d) (va_up an n (mka an o)) (va_up ge n (mkg ge o)) (n + 1) (mOr (S i) (sgl n true)) (dp i)))) := by rw [up_s, up_up]
  have hP := (congrArg (fun z9 => va_P D vwCl (wAN ct bd 24 (va_up dc n d) ++ wAP ct bv 24 (va_up vo n v) ++ wAP ct bp 24 (va_up pa n o) ++ wAN ct bg 24 (va_up ge n (mkg ge o)) ++ wAN ct bu 24 (va_up un n (mku un (mkg ge o) o v)) ++ wAM ct ba 24 (va_up an n (mka an o)) ++ wAT ct bt z9 dp (va_up sq i ((sq i) + 1)) ++ wAN ct bq 12 (va_up qq ((4 * i) + d) ((va_up sq i ((sq i) + 1)) i)) ++ wA1 ct bm (n + 1)) H) e9).mp hP
  have e9 : (va_up qq ((4 * i) + d) ((va_up sq i ((sq i) + 1)) i)) = (va_up qq ((4 * i) + d) (sq i + 1)) := by rw [up_s]
  have hP := (congrArg (fun z9 => va_P D vwCl (wAN ct bd 24 (va_up dc n d) ++ wAP ct bv 24 (va_up vo n v) ++ wAP ct bp 24 (va_up pa n o) ++ wAN ct bg 24 (va_up ge n (mkg ge o)) ++ wAN ct bu 24 (va_up un n (mku un (mkg ge o) o v)) ++ wAM ct ba 24 (va_up an n (mka an o)) ++ wAT ct bt (va_up S i (mNd (mOr (S i) (sgl n true)) (dpB (va_up dc n d) (va_up an n (mka an o)) (va_up ge n (mkg ge o)) (n + 1) (mOr (S i) (sgl n true)) (dp i)))) dp (va_up sq i (sq i + 1)) ++ wAN ct bq 12 z9 ++ wA1 ct bm (n + 1)) H) e9).mp hP
  have hP : va_P D vwCl (wAN ct bd 24 (va_up dc n d) ++ wAP ct bv 24 (va_up vo n v) ++ wAP ct bp 24 (va_up pa n o) ++ wAN ct bg 24 (va_up ge n (mkg ge o)) ++ wAN ct bu 24 (va_up un n (mku un (mkg ge o) o v)) ++ wAM ct ba 24 (va_up an n (mka an o)) ++ wAT ct bt (va_up S i (mNd (mOr (S i) (sgl n true)) (dpB (va_up dc n d) (va_up an n (mka an o)) (va_up ge n (mkg ge o)) (n + 1) (mOr (S i) (sgl n true)) (dp i)))) dp (va_up sq i (sq i + 1)) ++ wAN ct bq 12 (va_up qq ((4 * i) + d) (sq i + 1)) ++ wA1 ct bm (n + 1)) H := hP
  exact W.iret hx hb hr (fun t ht hW => ⟨⟨_, (), rfl, rfl, by show va_P D vwCl _ t.heap; rw [ht]; exact hP⟩, hS.F ht⟩) hS.2.2 dL_add_85
