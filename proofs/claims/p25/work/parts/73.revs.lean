set_option maxHeartbeats 1000000 in
set_option maxRecDepth 100000 in
theorem cL_areRevisions_ok (l : Launch) (D : va_G) (ct : Nat → ClassId) (r : Nat → Nat) (a : Nat → Nat) (u : Nat → Nat) (sa : Nat → Nat → Nat) (ha : Nat → Nat → Nat) (Ba : Nat → Nat) (n : Nat) (dc : Nat → Nat) (pa : Nat → Option Nat) (va : Nat → Int32) (dl : Nat → Bool) (ge : Nat → Nat) (su : Nat → Int32) (hu : Nat → Bool) (nu : Nat → Nat) (wu : Nat → Option Nat) (dps : Nat → Int32) (lts : Nat → Int32) (chs : Nat → Nat → Int32) (cks : Nat → Nat → Int32) (hds : Nat → Nat → Bool) (nls : Nat → Nat → Nat) (wis : Nat → Nat → Option Nat) (vo : Nat → Option Nat) (un : Nat → Nat) (an : Nat → Nat → Bool) (dp : Nat → Nat) (sq : Nat → Nat) (qq : Nat → Nat) (cc : Nat → Nat) (Bd : Nat) (hJ : JJ Bd n dc pa va dl ge su vo un an dp sq qq cc dps lts chs cks hds nls wis) (hBd : Bd ≤ 900000) : Met l yL_areRevisions wsL_areRevisions ({ frames := 2, cells := 0, slots := 0, locals := 42 } : Room) (roPc D ct [.ref (r 0), .ref (Ba 0), .ref (Ba 1), .ref (Ba 2), .ref (Ba 3), .ref (Ba 4), .ref (Ba 9)] (fl (uW ct r a u sa ha Ba n dc pa va dl ge su hu nu wu dps lts chs cks hds nls wis n dc pa ge vo un an hds dp sq qq cc))) (rqI (bI true)) 0 0 (fun _ => False) := by
  refine Met.ofW (cc := cL_areRevisions) (maxL := 9) (ret := (some .boolean)) (by decide) rfl ?_
  intro p e s m args below meth c s₁ B hml hv
  obtain ⟨rfl, hP, hK⟩ := hv
  have hx := B.exec
  have hb := B.bytes
  have hr := B.returns
  have hts := atoms_spec (ws := wsL_areRevisions) B.pre
  have hown : s.vm.findClass RL = some m.cls := findClass_of_methodNamed B.named
  have hlocks := B.notSynchronized
  have hl := lv_entry ([.ref (r 0), .ref (Ba 0), .ref (Ba 1), .ref (Ba 2), .ref (Ba 3), .ref (Ba 4), .ref (Ba 9)]) (n := 9) (Nat.le_of_ble_eq_true rfl)
  rw [lg_entry_eq]
  generalize (lg_sl ([.ref (r 0), .ref (Ba 0), .ref (Ba 1), .ref (Ba 2), .ref (Ba 3), .ref (Ba 4), .ref (Ba 9)]) ++ List.replicate (9 - (lg_sl ([.ref (r 0), .ref (Ba 0), .ref (Ba 1), .ref (Ba 2), .ref (Ba 3), .ref (Ba 4), .ref (Ba 9)])).length) Slot.unset).toArray = ls at hl ⊢
  have hl : lv_has ls 9 [(0, .ref (r 0)), (1, .ref (Ba 0)), (2, .ref (Ba 1)), (3, .ref (Ba 2)), (4, .ref (Ba 3)), (5, .ref (Ba 4)), (6, .ref (Ba 9))] := hl
  obtain ⟨hT9, hn, hTu, hTv, hX9, hA9⟩ := hJ.1
  have hTd := hT9.2.1
  have hTg := hT9.2.2.1
  have hTp := hT9.2.2.2.1
  have hb1 := hJ.2.2.1
  have hb2 := hJ.2.2.2.1
  have hb3 := hJ.2.2.2.2.1
  have hC : ∀ q, cc q ≤ 1000000 := fun q => by have := hb3 q; omega
  refine lv_iconst (v := nI 1) hx hb dL_areRevisions_0 (by decide) ?_
  refine lv_istore (lv' := [(7, .int (nI 1)), (0, .ref (r 0)), (1, .ref (Ba 0)), (2, .ref (Ba 1)), (3, .ref (Ba 2)), (4, .ref (Ba 3)), (5, .ref (Ba 4)), (6, .ref (Ba 9))]) hx hb dL_areRevisions_1 hl (by decide) rfl (fun ls hl => ?_)
  refine lv_iconst (v := nI 0) hx hb dL_areRevisions_3 (by decide) ?_
  refine lv_istore (lv' := [(8, .int (nI 0)), (7, .int (nI 1)), (0, .ref (r 0)), (1, .ref (Ba 0)), (2, .ref (Ba 1)), (3, .ref (Ba 2)), (4, .ref (Ba 3)), (5, .ref (Ba 4)), (6, .ref (Ba 9))]) hx hb dL_areRevisions_4 hl (by decide) rfl (fun ls hl => ?_)
  have key6 : ∀ (d6 : Nat) (k : Nat) (hk : k ≤ n), n - k < d6 → ∀  (ls : Array Slot), lv_has ls 9 [(8, .int (nI k)), (7, .int (nI 1)), (0, .ref (r 0)), (1, .ref (Ba 0)), (2, .ref (Ba 1)), (3, .ref (Ba 2)), (4, .ref (Ba 3)), (5, .ref (Ba 4)), (6, .ref (Ba 9))] → W p l e ({ frames := 2, cells := 0, slots := 0, locals := 42 } : Room) s m ([.ref (r 0), .ref (Ba 0), .ref (Ba 1), .ref (Ba 2), .ref (Ba 3), .ref (Ba 4), .ref (Ba 9)] : List Value).toArray below meth c s.heap [] 0 0 (MQ below (rqI (bI true)) ([.ref (r 0), .ref (Ba 0), .ref (Ba 1), .ref (Ba 2), .ref (Ba 3), .ref (Ba 4), .ref (Ba 9)] : List Value).toArray s 0 0 (fun _ => False)) (F0 m 6 ls []) := by
    intro d6
    induction d6 with
    | zero => intro k hk h9; exact absurd h9 (Nat.not_lt_zero _)
    | succ d6 ih6 =>
      intro k hk hm6  ls  hl
      refine lv_iload hx hb dL_areRevisions_6 (lv_at hl 0 rfl) ?_
      refine lv_aload hx hb dL_areRevisions_8 (lv_at hl 8 rfl) ?_
      refine lv_iconst (v := nI 0) hx hb dL_areRevisions_10 (by decide) ?_
      refine r_iald (j := 0) (v := nI n) hx hb hK.1 hP 43 0 rfl rfl (by omega) (by first | decide | omega) (rfl) dL_areRevisions_11 ?_
      refine r_icmp_geN hx hb (x := k) (y := n) (by first | omega | decide) (by first | omega | decide) (tgt := 100) dL_areRevisions_12 (by decide) (fun c12 => ?_) (fun c12 => ?_)
      · refine lv_iload hx hb dL_areRevisions_100 (lv_at hl 1 rfl) ?_
        refine r_top (y := bI true) (congrArg bI (show true = true from rfl)) ?_
        exact W.zret hx hb hr (bI_narrow _) (fun t ht hW => ⟨_, rfl, rfl, ht⟩) (fun _ h => by cases h) dL_areRevisions_102
      · refine lv_iload hx hb dL_areRevisions_15 (lv_at hl 1 rfl) ?_
        refine r_if_eqB (x := true) (tgt := 100) hx hb dL_areRevisions_17 (by decide) (fun c17 => by cases c17) (fun c17 => ?_)
        have f1 := hTd k
        have f2 := hTg k
        have f3 := hTu k
        refine lv_aload_n hx hb dL_areRevisions_20 rfl (lv_at hl 2 rfl) ?_
        refine lv_iload hx hb dL_areRevisions_21 (lv_at hl 0 rfl) ?_
        refine r_gR (As := [.int (nI k)]) (rest := []) (Cs := [wR ct r a u sa, wT ct a n dc pa va dl ge su]) ⟨hx, hb, hml, hown, hts⟩ (cX3_documentOf_ok l D ct r u sa a n dc pa va dl ge su k (by first | assumption | omega) (by first | assumption | omega)) (fl2 _ _) (cwV 1 hts gL_areRevisions_X3_documentOf rfl rfl rfl (by decide +kernel) ⟨Nat.le_of_ble_eq_true rfl, Nat.le_of_ble_eq_true rfl⟩) hK hP [0, 1] rfl 0 3 rfl rfl rfl hl.1 rfl (Nat.le_of_ble_eq_true rfl) dL_areRevisions_23 ⟨Nat.le_of_ble_eq_true rfl, Nat.le_of_ble_eq_true rfl⟩ ?_
        refine lv_aload_n hx hb dL_areRevisions_26 rfl (lv_at hl 3 rfl) ?_
        refine lv_iload hx hb dL_areRevisions_27 (lv_at hl 0 rfl) ?_
        refine r_iald (j := k) (v := nI (dc k)) hx hb hK.1 hP 34 0 rfl rfl (by omega) (by first | decide | omega) (rfl) dL_areRevisions_29 ?_
        refine lv_icmp_ne (x := nI (dc k)) (y := nI (dc k)) (tgt := 91) hx hb dL_areRevisions_30 (by decide) (fun h9 => absurd rfl h9) (fun _ => ?_)
        refine lv_aload_n hx hb dL_areRevisions_33 rfl (lv_at hl 2 rfl) ?_
        refine lv_iload hx hb dL_areRevisions_34 (lv_at hl 0 rfl) ?_
        refine r_gR (As := [.int (nI k)]) (rest := []) (Cs := [wR ct r a u sa, wT ct a n dc pa va dl ge su]) ⟨hx, hb, hml, hown, hts⟩ (cX3_parentOf_ok l D ct r u sa a n dc pa va dl ge su k (by first | assumption | omega) (by first | assumption | omega)) (fl2 _ _) (cwV 1 hts gL_areRevisions_X3_parentOf rfl rfl rfl (by decide +kernel) ⟨Nat.le_of_ble_eq_true rfl, Nat.le_of_ble_eq_true rfl⟩) hK hP [0, 1] rfl 0 3 rfl rfl rfl hl.1 rfl (Nat.le_of_ble_eq_true rfl) dL_areRevisions_36 ⟨Nat.le_of_ble_eq_true rfl, Nat.le_of_ble_eq_true rfl⟩ ?_
        refine lv_aload_n hx hb dL_areRevisions_39 rfl (lv_at hl 5 rfl) ?_
        refine lv_iload hx hb dL_areRevisions_40 (lv_at hl 0 rfl) ?_
        refine r_iald (j := k) (v := eP (pa k)) hx hb hK.1 hP 36 0 rfl rfl (by omega) (by first | decide | omega) (rfl) dL_areRevisions_42 ?_
        refine lv_icmp_ne (x := eP (pa k)) (y := eP (pa k)) (tgt := 91) hx hb dL_areRevisions_43 (by decide) (fun h9 => absurd rfl h9) (fun _ => ?_)
        refine lv_aload_n hx hb dL_areRevisions_46 rfl (lv_at hl 2 rfl) ?_
        refine lv_iload hx hb dL_areRevisions_47 (lv_at hl 0 rfl) ?_
        refine r_gR (As := [.int (nI k)]) (rest := []) (Cs := [wR ct r a u sa, wT ct a n dc pa va dl ge su]) ⟨hx, hb, hml, hown, hts⟩ (cX3_generation_ok l D ct r u sa a n dc pa va dl ge su k (by first | assumption | omega) (by first | assumption | omega)) (fl2 _ _) (cwV 1 hts gL_areRevisions_X3_generation rfl rfl rfl (by decide +kernel) ⟨Nat.le_of_ble_eq_true rfl, Nat.le_of_ble_eq_true rfl⟩) hK hP [0, 1] rfl 0 3 rfl rfl rfl hl.1 rfl (Nat.le_of_ble_eq_true rfl) dL_areRevisions_49 ⟨Nat.le_of_ble_eq_true rfl, Nat.le_of_ble_eq_true rfl⟩ ?_
        refine lv_aload hx hb dL_areRevisions_52 (lv_at hl 6 rfl) ?_
        refine lv_iload hx hb dL_areRevisions_54 (lv_at hl 0 rfl) ?_
        refine r_iald (j := k) (v := nI (ge k)) hx hb hK.1 hP 37 0 rfl rfl (by omega) (by first | decide | omega) (rfl) dL_areRevisions_56 ?_
        refine lv_icmp_ne (x := nI (ge k)) (y := nI (ge k)) (tgt := 91) hx hb dL_areRevisions_57 (by decide) (fun h9 => absurd rfl h9) (fun _ => ?_)
        refine lv_aload_n hx hb dL_areRevisions_60 rfl (lv_at hl 2 rfl) ?_
        refine lv_iload hx hb dL_areRevisions_61 (lv_at hl 0 rfl) ?_
        refine r_gR (As := [.int (nI k)]) (rest := []) (Cs := [wR ct r a u sa, wT ct a n dc pa va dl ge su]) ⟨hx, hb, hml, hown, hts⟩ (cX3_sum_ok l D ct r u sa a n dc pa va dl ge su k (by first | assumption | omega) (by first | assumption | omega)) (fl2 _ _) (cwV 1 hts gL_areRevisions_X3_sum rfl rfl rfl (by decide +kernel) ⟨Nat.le_of_ble_eq_true rfl, Nat.le_of_ble_eq_true rfl⟩) hK hP [0, 1] rfl 0 3 rfl rfl rfl hl.1 rfl (Nat.le_of_ble_eq_true rfl) dL_areRevisions_63 ⟨Nat.le_of_ble_eq_true rfl, Nat.le_of_ble_eq_true rfl⟩ ?_
        refine r_top (y := nI (un k)) ((hX9 k (by omega)).2.2) ?_
        refine lv_aload hx hb dL_areRevisions_66 (lv_at hl 7 rfl) ?_
        refine lv_iload hx hb dL_areRevisions_68 (lv_at hl 0 rfl) ?_
        refine r_iald (j := k) (v := nI (un k)) hx hb hK.1 hP 38 0 rfl rfl (by omega) (by first | decide | omega) (rfl) dL_areRevisions_70 ?_
        refine lv_icmp_ne (x := nI (un k)) (y := nI (un k)) (tgt := 91) hx hb dL_areRevisions_71 (by decide) (fun h9 => absurd rfl h9) (fun _ => ?_)
        refine lv_aload_n hx hb dL_areRevisions_74 rfl (lv_at hl 2 rfl) ?_
        refine lv_iload hx hb dL_areRevisions_75 (lv_at hl 0 rfl) ?_
        refine r_gR (As := [.int (nI k)]) (rest := []) (Cs := [wR ct r a u sa, wT ct a n dc pa va dl ge su]) ⟨hx, hb, hml, hown, hts⟩ (cX3_valueOf_ok l D ct r u sa a n dc pa va dl ge su k (by first | assumption | omega) (by first | assumption | omega)) (fl2 _ _) (cwV 1 hts gL_areRevisions_X3_valueOf rfl rfl rfl (by decide +kernel) ⟨Nat.le_of_ble_eq_true rfl, Nat.le_of_ble_eq_true rfl⟩) hK hP [0, 1] rfl 0 3 rfl rfl rfl hl.1 rfl (Nat.le_of_ble_eq_true rfl) dL_areRevisions_77 ⟨Nat.le_of_ble_eq_true rfl, Nat.le_of_ble_eq_true rfl⟩ ?_
        refine r_top (y := eP (vo k)) (JJ_val hJ (by omega)) ?_
        refine lv_aload_n hx hb dL_areRevisions_80 rfl (lv_at hl 4 rfl) ?_
        refine lv_iload hx hb dL_areRevisions_81 (lv_at hl 0 rfl) ?_
        refine r_iald (j := k) (v := eP (vo k)) hx hb hK.1 hP 35 0 rfl rfl (by omega) (by first | decide | omega) (rfl) dL_areRevisions_83 ?_
        refine lv_icmp_ne (x := eP (vo k)) (y := eP (vo k)) (tgt := 91) hx hb dL_areRevisions_84 (by decide) (fun h9 => absurd rfl h9) (fun _ => ?_)
        refine lv_iconst (v := nI 1) hx hb dL_areRevisions_87 (by decide) ?_
        refine lv_goto (tgt := 92) hx hb dL_areRevisions_88 (by decide) ?_
        refine lv_istore (lv' := [(7, .int (nI 1)), (8, .int (nI k)), (0, .ref (r 0)), (1, .ref (Ba 0)), (2, .ref (Ba 1)), (3, .ref (Ba 2)), (4, .ref (Ba 3)), (5, .ref (Ba 4)), (6, .ref (Ba 9))]) hx hb dL_areRevisions_92 hl (by decide) rfl (fun ls hl => ?_)
        refine lv_iinc (v := nI (k + 1)) (lv' := [(8, .int (nI (k + 1))), (7, .int (nI 1)), (0, .ref (r 0)), (1, .ref (Ba 0)), (2, .ref (Ba 1)), (3, .ref (Ba 2)), (4, .ref (Ba 3)), (5, .ref (Ba 4)), (6, .ref (Ba 9))]) hx hb dL_areRevisions_94 hl (k := 1) rfl (nI_1 _) (by decide) rfl (fun ls hl => ?_)
        refine lv_goto (tgt := 6) hx hb dL_areRevisions_97 (by decide) ?_
        exact ih6 (k + 1) (by first | assumption | omega) (by omega)  ls  (lv_sub hl [0, 1, 2, 3, 4, 5, 6, 7, 8] rfl)
  exact key6 ((n - 0) + 1) 0 (by first | assumption | omega) (Nat.lt_succ_self _)  ls  (lv_sub hl [0, 1, 2, 3, 4, 5, 6, 7, 8] rfl)
