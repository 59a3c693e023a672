set_option maxHeartbeats 8000000 in
set_option maxRecDepth 100000 in
theorem lk_revisions {p : Program} {l : Launch} {e : Env} {s : State} {m : MethodId} {below : List Frame} {meth : Method} {c : Code} {b L : Nat} {xs : Nat → Int32} (hL : L ≤ 2560) (C0 : lw_At p s m meth c b L xs) {D : va_G} {ct : Nat → ClassId} (hK : KK D ct s) (hlt : l.stackTraces = false) {r a u g : Nat → Nat} {sa ha : Nat → Nat → Nat} {o k cells slots : Nat} (hk : 5 * k + 5 ≤ L) (hcells : cells + 1 ≤ 601024) (hslots : slots + 6 ≤ 7293034) (hnx : LPs p l e s m below meth c b D ct r a u g sa ha o 1547 k (cells + 1) (slots + 6)) {n : Nat} {dc : Nat → Nat} {pa : Nat → Option Nat} {va : Nat → Int32} {dl : Nat → Bool} {ge : Nat → Nat} {su : Nat → Int32} {hu : Nat → Bool} {nu : Nat → Nat} {wu : Nat → Option Nat} {dps lts : Nat → Int32} {chs cks : Nat → Nat → Int32} {hds : Nat → Nat → Bool} {nls : Nat → Nat → Nat} {wis : Nat → Nat → Option Nat} {mk : Nat → Bool} {dpM sq tc kp : Nat → Int32} {la : Int32} {ov : Int64} (hJ : J n dc pa dl ge su mk dpM sq tc kp dps lts chs cks hds nls wis) : LSa p l e s m below meth c b D r g o 652 k (lW ct r a u sa ha o (wT ct a n dc pa va dl ge su) (wH ct u hu nu wu) (wM ct g n dc pa va dl ge su mk dpM sq tc kp la) dps lts chs cks hds nls wis ov) cells slots := by
  obtain ⟨hx, hb, hr, hml, hown, hts, hX, hbl, hlocks, hgv⟩ := C0
  have hts := fun w h => hts w (wsL_law_in w h)
  have hown : s.vm.findClass RL = some m.cls := hown
  have hb : c.code = cL_law := hb
  intro H locs hP hD hS hT ls hl
  have hA : ∀ q : Nat, s.heap.size ≤ q → (fun q : Nat => s.heap.size ≤ q) q := fun _ h => h
  refine lv_aload_n hx hb dL_law_652 rfl (lv_at hl 1 rfl) ?_
  refine r_gR (As := []) (rest := []) (Cs := [wR ct r a u sa, wT ct a n dc pa va dl ge su]) ⟨hx, hb, hml, hown, hts⟩ (cX3_revisions_ok l D ct r u sa a n dc pa va dl ge su) (fl2 _ _) (cwV 0 hts gL_law_X3_revisions rfl rfl rfl (by decide +kernel) ⟨Nat.le_of_ble_eq_true rfl, Nat.le_of_ble_eq_true rfl⟩) hK hP [0, 1] rfl 0 3 rfl rfl rfl hl.1 rfl (Nat.le_of_ble_eq_true rfl) dL_law_653 ⟨by show cells + 0 ≤ 601024; omega, by show slots + 0 ≤ 7293034; omega⟩ ?_
  refine lv_aload_n hx hb dL_law_656 rfl (lv_at hl 2 rfl) ?_
  refine r_gV (As := []) (rest := [.int (nI n)]) (Cs := [wM ct g n dc pa va dl ge su mk dpM sq tc kp la]) (C1 := [wM ct g n dc pa va dl ge su mk dpM sq tc kp (nI 0)]) ⟨hx, hb, hml, hown, hts⟩ (cX4_revisions_ok l D ct g n dc pa va dl ge su mk dpM sq tc kp la _) (fl1 _) (fl1 _) (cwV 0 hts gL_law_X4_revisions rfl rfl rfl (by decide +kernel) ⟨Nat.le_of_ble_eq_true rfl, Nat.le_of_ble_eq_true rfl⟩) hK hP hD hS hA [9] rfl rfl rfl 0 4 rfl rfl rfl hl.1 rfl (Nat.le_of_ble_eq_true rfl) dL_law_657 ⟨by show cells + 0 ≤ 601024; omega, by show slots + 0 ≤ 7293034; omega⟩ (fun H1 locs hP hD hS hz1 hk1 => ?_)
  refine lv_icmp_eq (x := nI n) (y := nI n) (tgt := 1547) hx hb dL_law_660 (by decide) (fun _ => ?_) (fun h => absurd rfl h)
  exact LSa_w (by omega) (by omega) (hnx n dc pa va dl ge su hu nu wu dps lts chs cks hds nls wis mk dpM sq tc kp (nI 0) ov hJ) _ _ hP hD hS (hT.kept hk1) ls hl
section LOOP
variable {p : Program} {l : Launch} {e : Env} {s : State} {m : MethodId} {below : List Frame} {meth : Method} {c : Code} {b L : Nat} {xs : Nat → Int32} {D : va_G} {ct : Nat → ClassId} {r a u g : Nat → Nat} {sa ha : Nat → Nat → Nat} {o : Nat}
theorem lk_next {k cells slots : Nat} (C0 : lw_At p s m meth c b L xs) (h : LPs p l e s m below meth c b D ct r a u g sa ha o 23 (k + 1) cells slots) : LPs p l e s m below meth c b D ct r a u g sa ha o 1547 k cells slots := by
  obtain ⟨hx, hb, hr, hml, hown, hts, hX, hbl, hlocks, hgv⟩ := C0
  have hb : c.code = cL_law := hb
  intro n dc pa va dl ge su hu nu wu dps lts chs cks hds nls wis mk dpM sq tc kp la ov hJ H locs hP hD hS hT ls hl
  have e5 : nI (5 * k) + Int32.ofInt 5 = nI (5 * (k + 1)) := by
    rw [show Int32.ofInt 5 = nI 5 by decide, nI_add]
    rfl
  refine lv_iinc (v := nI (5 * (k + 1))) (lv' := [(4, .int (nI (5 * (k + 1)))), (0, .ref b), (1, .ref (r 0)), (2, .ref (g 0)), (3, .ref o)]) hx hb dL_law_1547 hl (k := 4) rfl e5 (by decide) rfl (fun ls hl => ?_)
  refine lv_goto (tgt := 23) hx hb dL_law_1550 (by decide) ?_
  exact h n dc pa va dl ge su hu nu wu dps lts chs cks hds nls wis mk dpM sq tc kp la ov hJ H locs hP hD hS hT ls (lv_sub hl [1, 2, 3, 4, 0] rfl)
theorem nI_of31 {x : Int32} : ∃ j : Nat, j < 32 ∧ x &&& nI 31 = nI j := pk_andE x 5 (by decide)
set_option maxHeartbeats 8000000 in
set_option maxRecDepth 100000 in
theorem law_loop (hL : L ≤ 2560) (C0 : lw_At p s m meth c b L xs) (hK : KK D ct s) (hlt : l.stackTraces = false) : ∀ (f k : Nat), L < 5 * k + 5 * f → 5 * k ≤ L → LPs p l e s m below meth c b D ct r a u g sa ha o 23 k (47 + k) (3604 + 6 * k)
  | 0, k, h1, h2 => absurd h1 (by omega)
  | f + 1, k, h1, h2 => by
    have C1 := C0
    obtain ⟨hx, hb, hr, hml, hown, hts, hX, hbl, hlocks, hgv⟩ := C0
    have hb0 := hb
    have hb : c.code = cL_law := hb
    intro n dc pa va dl ge su hu nu wu dps lts chs cks hds nls wis mk dpM sq tc kp la ov hJ H locs hP hD hS hT ls hl
    refine lv_iload hx hb dL_law_23 (lv_at hl 4 rfl) ?_
    refine lv_aload_n hx hb dL_law_25 rfl (lv_at hl 0 rfl) ?_
    refine va_slen hx hb hX hbl (Nat.not_le.mpr hbl) hS dL_law_26 ?_
    refine lv_iconst (v := nI 5) hx hb dL_law_27 (by decide) ?_
    refine lv_isub hx hb dL_law_28 ?_
    have eL : (nI L - nI 5).toInt = (L : Int) - 5 := pk_sub_toInt (by omega) (by decide)
    have ek : (nI (5 * k)).toInt = ((5 * k : Nat) : Int) := nI_toInt (by omega)
    refine lv_icmp_gt (x := nI (5 * k)) (y := nI L - nI 5) (tgt := 1553) hx hb dL_law_29 (by decide) (fun c29 => ?_) (fun c29 => ?_)
    · refine lv_iconst (v := 1) hx hb dL_law_1553 (by decide) ?_
      refine va_forget (fun q hq => hS.2.2 q hq) ?_
      refine W.widen (k := 601024) (n := 7293034) (by omega) (by omega) ?_
      exact lw_ret hx hb0 hr hlocks dL_law_1554
    · have hk : 5 * k + 5 ≤ L := by
        rw [Int32.lt_iff_toInt_lt, eL, ek] at c29
        omega
      have hnx := lk_next (k := k) C1 (law_loop hL C1 hK hlt f (k + 1) (by omega) (by omega))
      refine lv_aload_n hx hb dL_law_32 rfl (lv_at hl 0 rfl) ?_
      refine lv_iload hx hb dL_law_33 (lv_at hl 4 rfl) ?_
      refine r_sld (j := 5 * k) hx hb hX hbl hS (by omega) hL dL_law_35 ?_
      refine lv_bipush (v := nI 31) hx hb dL_law_36 (by decide) ?_
      refine lv_iand hx hb dL_law_38 ?_
      obtain ⟨j, hj, ej⟩ := nI_of31 (x := xs (5 * k))
      rw [ej]
      have hc : 47 + k + 1 ≤ 601024 := by omega
      have hs : 3604 + 6 * k + 6 ≤ 7293034 := by omega
      by_cases h22 : j < 22
      · rcases (show j = 0 ∨ j = 1 ∨ j = 2 ∨ j = 3 ∨ j = 4 ∨ j = 5 ∨ j = 6 ∨ j = 7 ∨ j = 8 ∨ j = 9 ∨ j = 10 ∨ j = 11 ∨ j = 12 ∨ j = 13 ∨ j = 14 ∨ j = 15 ∨ j = 16 ∨ j = 17 ∨ j = 18 ∨ j = 19 ∨ j = 20 ∨ j = 21 by omega) with rfl | rfl | rfl | rfl | rfl | rfl | rfl | rfl | rfl | rfl | rfl | rfl | rfl | rfl | rfl | rfl | rfl | rfl | rfl | rfl | rfl | rfl
        · refine lv_tableIn (off := 101) (tgt := 140) hx hb dL_law_39 (by decide) (by decide) rfl (by decide) ?_
          exact lk_edit hL C1 hK hlt hk hc hs hnx hJ H locs hP hD hS hT ls hl
        · refine lv_tableIn (off := 193) (tgt := 232) hx hb dL_law_39 (by decide) (by decide) rfl (by decide) ?_
          exact lk_delete hL C1 hK hlt hk hc hs hnx hJ H locs hP hD hS hT ls hl
        · refine lv_tableIn (off := 273) (tgt := 312) hx hb dL_law_39 (by decide) (by decide) rfl (by decide) ?_
          exact lk_setDepth hL C1 hK hlt hk hc hs hnx hJ H locs hP hD hS hT ls hl
        · refine lv_tableIn (off := 341) (tgt := 380) hx hb dL_law_39 (by decide) (by decide) rfl (by decide) ?_
          exact lk_wipe hL C1 hK hlt hk hc hs hnx hJ H locs hP hD hS hT ls hl
        · refine lv_tableIn (off := 397) (tgt := 436) hx hb dL_law_39 (by decide) (by decide) rfl (by decide) ?_
          exact lk_replicate hL C1 hK hlt hk hc hs hnx hJ H locs hP hD hS hT ls hl
        · refine lv_tableIn (off := 477) (tgt := 516) hx hb dL_law_39 (by decide) (by decide) rfl (by decide) ?_
          exact lk_pending hL C1 hK hlt hk hc hs hnx hJ H locs hP hD hS hT ls hl
        · refine lv_tableIn (off := 545) (tgt := 584) hx hb dL_law_39 (by decide) (by decide) rfl (by decide) ?_
          exact lk_checkpoint hL C1 hK hlt hk hc hs hnx hJ H locs hP hD hS hT ls hl
        · refine lv_tableIn (off := 613) (tgt := 652) hx hb dL_law_39 (by decide) (by decide) rfl (by decide) ?_
          exact lk_revisions hL C1 hK hlt hk hc hs hnx hJ H locs hP hD hS hT ls hl
        · refine lv_tableIn (off := 626) (tgt := 665) hx hb dL_law_39 (by decide) (by decide) rfl (by decide) ?_
          exact lk_documentOf hL C1 hK hlt hk hc hs hnx hJ H locs hP hD hS hT ls hl
        · refine lv_tableIn (off := 682) (tgt := 721) hx hb dL_law_39 (by decide) (by decide) rfl (by decide) ?_
          exact lk_parentOf hL C1 hK hlt hk hc hs hnx hJ H locs hP hD hS hT ls hl
        · refine lv_tableIn (off := 738) (tgt := 777) hx hb dL_law_39 (by decide) (by decide) rfl (by decide) ?_
          exact lk_generation hL C1 hK hlt hk hc hs hnx hJ H locs hP hD hS hT ls hl
        · refine lv_tableIn (off := 794) (tgt := 833) hx hb dL_law_39 (by decide) (by decide) rfl (by decide) ?_
          exact lk_sum hL C1 hK hlt hk hc hs hnx hJ H locs hP hD hS hT ls hl
        · refine lv_tableIn (off := 850) (tgt := 889) hx hb dL_law_39 (by decide) (by decide) rfl (by decide) ?_
          exact lk_valueOf hL C1 hK hlt hk hc hs hnx hJ H locs hP hD hS hT ls hl
        · refine lv_tableIn (off := 906) (tgt := 945) hx hb dL_law_39 (by decide) (by decide) rfl (by decide) ?_
          exact lk_sequence hL C1 hK hlt hk hc hs hnx hJ H locs hP hD hS hT ls hl
        · refine lv_tableIn (off := 962) (tgt := 1001) hx hb dL_law_39 (by decide) (by decide) rfl (by decide) ?_
          exact lk_has hL C1 hK hlt hk hc hs hnx hJ H locs hP hD hS hT ls hl
        · refine lv_tableIn (off := 1037) (tgt := 1076) hx hb dL_law_39 (by decide) (by decide) rfl (by decide) ?_
          exact lk_isLeaf hL C1 hK hlt hk hc hs hnx hJ H locs hP hD hS hT ls hl
        · refine lv_tableIn (off := 1112) (tgt := 1151) hx hb dL_law_39 (by decide) (by decide) rfl (by decide) ?_
          exact lk_size hL C1 hK hlt hk hc hs hnx hJ H locs hP hD hS hT ls hl
        · refine lv_tableIn (off := 1168) (tgt := 1207) hx hb dL_law_39 (by decide) (by decide) rfl (by decide) ?_
          exact lk_winner hL C1 hK hlt hk hc hs hnx hJ H locs hP hD hS hT ls hl
        · refine lv_tableIn (off := 1236) (tgt := 1275) hx hb dL_law_39 (by decide) (by decide) rfl (by decide) ?_
          exact lk_winnerOfAll hL C1 hK hlt hk hc hs hnx hJ H locs hP hD hS hT ls hl
        · refine lv_tableIn (off := 1292) (tgt := 1331) hx hb dL_law_39 (by decide) (by decide) rfl (by decide) ?_
          exact lk_conflicts hL C1 hK hlt hk hc hs hnx hJ H locs hP hD hS hT ls hl
        · refine lv_tableIn (off := 1360) (tgt := 1399) hx hb dL_law_39 (by decide) (by decide) rfl (by decide) ?_
          exact lk_count hL C1 hK hlt hk hc hs hnx hJ H locs hP hD hS hT ls hl
        · refine lv_tableIn (off := 1440) (tgt := 1479) hx hb dL_law_39 (by decide) (by decide) rfl (by decide) ?_
          exact lk_viewAt hL C1 hK hlt hk hc hs hnx hJ H locs hP hD hS hT ls hl
      · have ejj : (nI j).toInt = (j : Int) := nI_toInt (by omega)
        refine lv_tableOut (tgt := 1547) hx hb dL_law_39 (Or.inr (by rw [ejj]; omega)) (by decide) ?_
        exact LSa_w (by omega) (by omega) (hnx n dc pa va dl ge su hu nu wu dps lts chs cks hds nls wis mk dpM sq tc kp la ov hJ) H locs hP hD hS hT ls hl
end LOOP
theorem fl11 (a b c d e f g h i j k : va_W) : a ++ b ++ c ++ d ++ e ++ f ++ g ++ h ++ i ++ j ++ k = fl [a, b, c, d, e, f, g, h, i, j, k] := by simp [fl]
theorem J_init : J 0 (fun _ => 0) (fun _ => some 0) (fun _ => false) (fun _ => 0) (fun _ => nI 0) (fun _ => false) (va_up (va_up (va_up (fun _ => nI 0) 0 (nI 20)) 1 (nI 20)) 2 (nI 20)) (fun _ => nI 0) (fun _ => nI 0) (fun _ => nI 0) (fun _ => nI 20) (fun _ => nI 0) (fun _ _ => nI 0) (fun _ _ => nI 0) (fun _ _ => false) (fun _ _ => 151) (fun _ _ => none) := by
  have hT : TV 0 (fun _ => 0) (fun _ => some 0) (fun _ => 0) := ⟨by decide, fun _ => by show 0 < 4; decide, fun _ => by show 0 ≤ 150; decide, fun k j h => absurd h (Nat.not_lt_zero _), fun k j h => absurd h (Nat.not_lt_zero _), fun k h => absurd h (Nat.not_lt_zero _)⟩
  have hN : NL 0 (fun _ => some 0) (fun _ => 0) (fun _ => false) (fun _ => 151) := by
    refine ⟨fun _ => Nat.le_refl _, fun q => ⟨fun h => absurd rfl h, ?_⟩, fun q k h => absurd h (Nat.not_lt_zero _), fun q h => absurd rfl h⟩
    rintro ⟨k, h, -⟩
    exact absurd h (Nat.not_lt_zero _)
  have hV : SV 0 (fun _ => 0) (fun _ => some 0) (fun _ => false) (fun _ => 0) (fun _ => nI 0) (fun _ => false) (fun _ => 151) (fun _ => none) := by
    refine ⟨fun k h => ?_, hN, fun d => rfl⟩
    cases h
  refine ⟨hT, fun i hi => ⟨hV, fun k hk => rfl, ⟨20, ?_, rfl, by decide, by decide⟩, rfl, fun d hd => rfl, fun q hq => rfl⟩⟩
  rcases (show i = 0 ∨ i = 1 ∨ i = 2 by omega) with rfl | rfl | rfl <;> rfl
