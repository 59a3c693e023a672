/-! holds: the loop over the steps -/
set_option maxHeartbeats 8000000 in
set_option maxRecDepth 100000 in
theorem holds_loop {p : Program} {l : Launch} {e : Env} {s : State} {m : MethodId} {below : List Frame} {meth : Method} {c : Code} {D : va_G} {ct : Nat → ClassId} {r : Nat → Nat} {a : Nat → Nat} {u : Nat → Nat} {sa : Nat → Nat → Nat} {ha : Nat → Nat → Nat} {Ba : Nat → Nat} {b L : Nat} {xs : Nat → Int32} (hlt : l.stackTraces = false) (hL : L ≤ 260) (hx : p.tables.exec = Jvm.exec) (hb : c.code = cL_holds) (hr : meth.sig.returnType = some .boolean) (hml : c.maxLocals = 14) (hown : s.vm.findClass RL = some m.cls) (hts : ∀ w ∈ wsL_holds, w.before ([.ref b] : List Value).toArray s = true) (hK : KK D ct s) (hT : TXA (fun q => s.heap.size ≤ q) s s.heap) (hX : va_X b L xs s s.heap) (hbl : b < s.heap.size) (hlocks : meth.locks = false) : ∀ (f k : Nat), 70 - k < f → k ≤ 70 → ∀ (w : va_W) (H : Heap) (locs : List Loc) (ls : Array Slot), GW ct r a u sa ha Ba (4 * k) w → va_P D vwCl w H → va_D (fun q => s.heap.size ≤ q) w → va_S (fun q => s.heap.size ≤ q) s.heap H locs → lv_has ls 14 [(13, .int (nI k)), (12, .int (nI 1)), (11, .ref (Ba 9)), (10, .ref (Ba 8)), (9, .ref (Ba 7)), (8, .ref (Ba 6)), (7, .ref (Ba 5)), (6, .ref (Ba 4)), (5, .ref (Ba 3)), (4, .ref (Ba 2)), (3, .ref (Ba 1)), (2, .ref (Ba 0)), (1, .ref (r 0)), (0, .ref b)] → W p l e ({ frames := 11, cells := 200, slots := 3300, locals := 420 } : Room) s m ([.ref b] : List Value).toArray below meth c H locs (44 + 2 * k) (2400 + 12 * k) (MQ below (va_Qi (fun (r9 : Int32) (_ : Unit) => r9 = bI true) (fun _ _ => True) (fun _ => False)) ([.ref b] : List Value).toArray s 200 3300 (fun _ => False)) (F0 m 90 ls [])
  | 0, k, h1, _ => absurd h1 (Nat.not_lt_zero _)
  | f + 1, k, h1, h2 => by
    have ih := holds_loop (e := e) (below := below) (r := r) (a := a) (u := u) (sa := sa) (ha := ha) (Ba := Ba) hlt hL hx hb hr hml hown hts hK hT hX hbl hlocks f (k + 1)
    intro w H locs ls hG hP hD hS hl
    have hA : ∀ q : Nat, s.heap.size ≤ q → (fun q : Nat => s.heap.size ≤ q) q := fun _ h => h
    have hXH : ∀ {H1 : Heap} {lc : List Loc}, va_S (fun q => s.heap.size ≤ q) s.heap H1 lc → va_X b L xs s H1 ∧ b < H1.size := fun h => ⟨hX.kept (h.2.1 b hbl (Nat.not_le.mpr hbl)), Nat.lt_of_lt_of_le hbl h.1⟩
    have fin : ∀ (w : va_W) (H : Heap) (locs : List Loc) (ls : Array Slot), k < 70 → GW ct r a u sa ha Ba (4 * k + 4) w → va_P D vwCl w H → va_D (fun q => s.heap.size ≤ q) w → va_S (fun q => s.heap.size ≤ q) s.heap H locs → lv_has ls 14 [(13, .int (nI k)), (12, .int (nI 1)), (11, .ref (Ba 9)), (10, .ref (Ba 8)), (9, .ref (Ba 7)), (8, .ref (Ba 6)), (7, .ref (Ba 5)), (6, .ref (Ba 4)), (5, .ref (Ba 3)), (4, .ref (Ba 2)), (3, .ref (Ba 1)), (2, .ref (Ba 0)), (1, .ref (r 0)), (0, .ref b)] → W p l e ({ frames := 11, cells := 200, slots := 3300, locals := 420 } : Room) s m ([.ref b] : List Value).toArray below meth c H locs (44 + 2 * k + 2) (2400 + 12 * k + 12) (MQ below (va_Qi (fun (r9 : Int32) (_ : Unit) => r9 = bI true) (fun _ _ => True) (fun _ => False)) ([.ref b] : List Value).toArray s 200 3300 (fun _ => False)) (F0 m 196 ls []) := by
      intro w H locs ls hk hG hP hD hS hl
      refine lv_iconst (v := nI 1) hx hb dL_holds_196 (by decide) ?_
      refine lv_goto (tgt := 201) hx hb dL_holds_197 (by decide) ?_
      refine lv_istore (lv' := [(12, .int (nI 1)), (13, .int (nI k)), (11, .ref (Ba 9)), (10, .ref (Ba 8)), (9, .ref (Ba 7)), (8, .ref (Ba 6)), (7, .ref (Ba 5)), (6, .ref (Ba 4)), (5, .ref (Ba 3)), (4, .ref (Ba 2)), (3, .ref (Ba 1)), (2, .ref (Ba 0)), (1, .ref (r 0)), (0, .ref b)]) hx hb dL_holds_201 hl (by decide) rfl (fun ls hl => ?_)
      refine lv_iinc (v := nI (k + 1)) (lv' := [(13, .int (nI (k + 1))), (12, .int (nI 1)), (11, .ref (Ba 9)), (10, .ref (Ba 8)), (9, .ref (Ba 7)), (8, .ref (Ba 6)), (7, .ref (Ba 5)), (6, .ref (Ba 4)), (5, .ref (Ba 3)), (4, .ref (Ba 2)), (3, .ref (Ba 1)), (2, .ref (Ba 0)), (1, .ref (r 0)), (0, .ref b)]) hx hb dL_holds_203 hl (k := 1) rfl (nI_1 k) (by decide) rfl (fun ls hl => ?_)
      refine lv_goto (tgt := 90) hx hb dL_holds_206 (by decide) ?_
      refine W.widen (k := 44 + 2 * (k + 1)) (n := 2400 + 12 * (k + 1)) (by omega) (by omega) ?_
      exact ih (by omega) (by omega) w H locs ls (by rw [show 4 * (k + 1) = 4 * k + 4 by omega]; exact hG) hP hD hS hl
    refine lv_iload hx hb dL_holds_90 (lv_at hl 0 rfl) ?_
    refine lv_bipush (v := nI 70) hx hb dL_holds_92 (by decide) ?_
    refine r_icmp_geN hx hb (x := k) (y := 70) (by omega) (by decide) (tgt := 209) dL_holds_94 (by decide) (fun c94 => ?_) (fun c94 => ?_)
    · refine lv_iload hx hb dL_holds_209 (lv_at hl 1 rfl) ?_
      refine va_forget (fun q hq => hS.2.2 q hq) ?_
      refine W.widen (k := 200) (n := 3300) (by omega) (by omega) ?_
      refine r_top (y := bI true) rfl ?_
      exact W.zret hx hb hr (bI_narrow true) (fun t ht hW => ⟨⟨_, (), rfl, rfl, trivial⟩, by rw [ht]; exact hS.1, fun q h1 _ => by rw [ht]; exact hS.2.1 q h1 (Nat.not_le.mpr h1)⟩) (fun _ h => by cases h) dL_holds_211
    · refine lv_iload hx hb dL_holds_97 (lv_at hl 1 rfl) ?_
      refine lv_if_eq (x := nI 1) (tgt := 209) hx hb dL_holds_99 (by decide) (fun h => absurd h (by decide)) (fun _ => ?_)
      refine lv_aload_n hx hb dL_holds_102 rfl (lv_at hl 12 rfl) ?_
      refine lv_aload_n hx hb dL_holds_103 rfl (lv_at hl 11 rfl) ?_
      refine lv_aload_n hx hb dL_holds_104 rfl (lv_at hl 10 rfl) ?_
      refine lv_aload hx hb dL_holds_105 (lv_at hl 9 rfl) ?_
      refine lv_aload hx hb dL_holds_107 (lv_at hl 8 rfl) ?_
      refine lv_aload hx hb dL_holds_109 (lv_at hl 7 rfl) ?_
      refine lv_aload hx hb dL_holds_111 (lv_at hl 6 rfl) ?_
      refine lv_aload hx hb dL_holds_113 (lv_at hl 5 rfl) ?_
      refine lv_aload hx hb dL_holds_115 (lv_at hl 4 rfl) ?_
      refine lv_aload hx hb dL_holds_117 (lv_at hl 3 rfl) ?_
      refine lv_aload hx hb dL_holds_119 (lv_at hl 2 rfl) ?_
      refine lv_aload_n hx hb dL_holds_121 rfl (lv_at hl 13 rfl) ?_
      refine lv_iconst (v := nI 2) hx hb dL_holds_122 (by decide) ?_
      refine lv_iload hx hb dL_holds_123 (lv_at hl 0 rfl) ?_
      refine r_imulN hx hb dL_holds_125 ?_
      refine lv_bipush (v := nI 12) hx hb dL_holds_126 (by decide) ?_
      refine r_frm (rest := [.ref (Ba 9), .ref (Ba 8), .ref (Ba 7), .ref (Ba 6), .ref (Ba 5), .ref (Ba 4), .ref (Ba 3), .ref (Ba 2), .ref (Ba 1), .ref (Ba 0), .ref (r 0)]) ⟨hx, hb, hml, hown, hts⟩ (hXH hS).1 (hXH hS).2 hL (by omega) (by decide) (by decide) (va_cwS 3 hts gL_holds_L_from rfl rfl rfl (by decide +kernel) ⟨Nat.le_of_ble_eq_true rfl, Nat.le_of_ble_eq_true rfl⟩) (Nat.le_of_ble_eq_true rfl) hl.1 (Nat.le_of_ble_eq_true rfl) dL_holds_128 ⟨by show 44 + 2 * k + 0 ≤ 200; omega, by show 2400 + 12 * k + 0 ≤ 3300; omega⟩ ?_
      have hway : frN xs L (2 * k) 12 < 12 := Nat.mod_lt _ (by decide)
      generalize frN xs L (2 * k) 12 = way at hway ⊢
      refine lv_aload_n hx hb dL_holds_131 rfl (lv_at hl 13 rfl) ?_
      refine lv_iconst (v := nI 2) hx hb dL_holds_132 (by decide) ?_
      refine lv_iload hx hb dL_holds_133 (lv_at hl 0 rfl) ?_
      refine r_imulN hx hb dL_holds_135 ?_
      refine lv_iconst (v := nI 1) hx hb dL_holds_136 (by decide) ?_
      refine r_iaddN hx hb dL_holds_137 ?_
      refine lv_ldc (v := 1000000) hx hb hown (hts (.constant RL 140 1000000) (List.mem_of_getElem? (i := 5) rfl)) dL_holds_138 ?_
      refine r_top (y := nI 1000000) (by decide) ?_
      refine r_frm (rest := [.int (nI way), .ref (Ba 9), .ref (Ba 8), .ref (Ba 7), .ref (Ba 6), .ref (Ba 5), .ref (Ba 4), .ref (Ba 3), .ref (Ba 2), .ref (Ba 1), .ref (Ba 0), .ref (r 0)]) ⟨hx, hb, hml, hown, hts⟩ (hXH hS).1 (hXH hS).2 hL (by omega) (by decide) (by decide) (va_cwS 3 hts gL_holds_L_from rfl rfl rfl (by decide +kernel) ⟨Nat.le_of_ble_eq_true rfl, Nat.le_of_ble_eq_true rfl⟩) (Nat.le_of_ble_eq_true rfl) hl.1 (Nat.le_of_ble_eq_true rfl) dL_holds_140 ⟨by show 44 + 2 * k + 0 ≤ 200; omega, by show 2400 + 12 * k + 0 ≤ 3300; omega⟩ ?_
      have hz : frN xs L ((2 * k) + 1) 1000000 < 1000000 := Nat.mod_lt _ (by decide)
      generalize frN xs L ((2 * k) + 1) 1000000 = z at hz ⊢
      obtain ⟨n, dc, pa, va, dl, ge, su, hu, nu, wu, dps, lts, chs, cks, hds, nls, wis, vo, un, an, dp, sq, qq, cc, rfl, hJ⟩ := hG
      have hTw : TXA (va_A (fl (uW ct r a u sa ha Ba n dc pa va dl ge su hu nu wu dps lts chs cks hds nls wis n dc pa ge vo un an hds dp sq qq cc)) H.size) s H := (hT.kept hS.2.1).narrow (fun q hq => by
        rcases hq with ⟨k9, e9, h9⟩ | h9
        · exact hD.2 k9 _ h9
        · exact Nat.le_trans hS.1 h9)
      refine r_xSi (As := [.ref (r 0), .ref (Ba 0), .ref (Ba 1), .ref (Ba 2), .ref (Ba 3), .ref (Ba 4), .ref (Ba 5), .ref (Ba 6), .ref (Ba 7), .ref (Ba 8), .ref (Ba 9), .int (nI way), .int (nI z)]) (rest := []) ⟨hx, hb, hml, hown, hts⟩ (cL_acts_ok l hlt D ct r a u sa ha Ba n dc pa va dl ge su hu nu wu dps lts chs cks hds nls wis vo un an dp sq qq cc (4 * k) way z hJ (by omega) hway hz _) ac_blind (ac_pre hK hP hD hTw) (va_cwS 13 hts gL_holds_L_acts rfl rfl rfl (by decide +kernel) ⟨Nat.le_of_ble_eq_true rfl, Nat.le_of_ble_eq_true rfl⟩) hD hS hA (fun w h => GW_fst h) rfl hl.1 rfl (Nat.le_of_ble_eq_true rfl) dL_holds_143 ⟨by show 44 + 2 * k + 2 ≤ 200; omega, by show 2400 + 12 * k + 12 ≤ 3300; omega⟩ (fun w H locs hG hP hD hS => ?_)
      refine r_if_eqB (x := true) (tgt := 200) hx hb dL_holds_146 (by decide) (fun h9 => by cases h9) (fun _ => ?_)
      obtain ⟨n, dc, pa, va, dl, ge, su, hu, nu, wu, dps, lts, chs, cks, hds, nls, wis, vo, un, an, dp, sq, qq, cc, rfl, hJ⟩ := hG
      refine lv_aload_n hx hb dL_holds_149 rfl (lv_at hl 12 rfl) ?_
      refine lv_aload_n hx hb dL_holds_150 rfl (lv_at hl 11 rfl) ?_
      refine lv_aload_n hx hb dL_holds_151 rfl (lv_at hl 10 rfl) ?_
      refine lv_aload hx hb dL_holds_152 (lv_at hl 9 rfl) ?_
      refine lv_aload hx hb dL_holds_154 (lv_at hl 8 rfl) ?_
      refine lv_aload hx hb dL_holds_156 (lv_at hl 7 rfl) ?_
      refine lv_aload hx hb dL_holds_158 (lv_at hl 2 rfl) ?_
      refine r_cS (As := [.ref (r 0), .ref (Ba 0), .ref (Ba 1), .ref (Ba 2), .ref (Ba 3), .ref (Ba 4), .ref (Ba 9)]) (rest := []) ⟨hx, hb, hml, hown, hts⟩ (cL_areRevisions_ok l D ct r a u sa ha Ba n dc pa va dl ge su hu nu wu dps lts chs cks hds nls wis vo un an dp sq qq cc (4 * k + 4) hJ (by omega)) (va_cwS 7 hts gL_holds_L_areRevisions rfl rfl rfl (by decide +kernel) ⟨Nat.le_of_ble_eq_true rfl, Nat.le_of_ble_eq_true rfl⟩) hK hP rfl hl.1 rfl (Nat.le_of_ble_eq_true rfl) dL_holds_160 ⟨by show 44 + 2 * k + 2 + 0 ≤ 200; omega, by show 2400 + 12 * k + 12 + 0 ≤ 3300; omega⟩ ?_
      refine r_if_eqB (x := true) (tgt := 200) hx hb dL_holds_163 (by decide) (fun h9 => by cases h9) (fun _ => ?_)
      refine lv_iload hx hb dL_holds_166 (lv_at hl 0 rfl) ?_
      refine lv_iconst (v := nI 2) hx hb dL_holds_168 (by decide) ?_
      refine lv_irem hx hb dL_holds_169 (by decide) ?_
      refine r_top (y := nI (k % 2)) (pk_rem (by omega) (by decide) (by decide)) ?_
      refine r_if_eqN hx hb (x := k % 2) (by omega) (tgt := 196) dL_holds_170 (by decide) (fun c170 => ?_) (fun c170 => ?_)
      · exact fin _ H locs ls (by omega) (GW_mk hJ) hP hD hS hl
      · refine lv_aload_n hx hb dL_holds_173 rfl (lv_at hl 12 rfl) ?_
        refine lv_aload_n hx hb dL_holds_174 rfl (lv_at hl 11 rfl) ?_
        refine lv_aload_n hx hb dL_holds_175 rfl (lv_at hl 10 rfl) ?_
        refine lv_aload hx hb dL_holds_176 (lv_at hl 8 rfl) ?_
        refine lv_aload hx hb dL_holds_178 (lv_at hl 7 rfl) ?_
        refine lv_aload hx hb dL_holds_180 (lv_at hl 6 rfl) ?_
        refine lv_aload hx hb dL_holds_182 (lv_at hl 5 rfl) ?_
        refine lv_aload hx hb dL_holds_184 (lv_at hl 4 rfl) ?_
        refine lv_aload hx hb dL_holds_186 (lv_at hl 3 rfl) ?_
        refine lv_aload hx hb dL_holds_188 (lv_at hl 2 rfl) ?_
        refine r_xSi (As := [.ref (r 0), .ref (Ba 0), .ref (Ba 1), .ref (Ba 3), .ref (Ba 4), .ref (Ba 5), .ref (Ba 6), .ref (Ba 7), .ref (Ba 8), .ref (Ba 9)]) (rest := []) ⟨hx, hb, hml, hown, hts⟩ (cL_areStores_ok l D ct r a u sa ha Ba n dc pa va dl ge su hu nu wu dps lts chs cks hds nls wis vo un an dp sq qq cc (4 * k + 4) hJ (by omega) _) wr_blind (wr_pre hK hP hD) (va_cwS 10 hts gL_holds_L_areStores rfl rfl rfl (by decide +kernel) ⟨Nat.le_of_ble_eq_true rfl, Nat.le_of_ble_eq_true rfl⟩) hD hS hA (fun w h => GW_fst h) rfl hl.1 rfl (Nat.le_of_ble_eq_true rfl) dL_holds_190 ⟨by show 44 + 2 * k + 2 + 0 ≤ 200; omega, by show 2400 + 12 * k + 12 + 0 ≤ 3300; omega⟩ (fun w H locs hG hP hD hS => ?_)
        refine r_if_eqB (x := true) (tgt := 200) hx hb dL_holds_193 (by decide) (fun h9 => by cases h9) (fun _ => ?_)
        exact fin w H locs ls (by omega) hG hP hD hS hl
def adB (x0 x1 x2 x3 x4 x5 x6 x7 x8 x9 : Nat) : Nat → Nat := fun k => match k with
  | 0 => x0
  | 1 => x1
  | 2 => x2
  | 3 => x3
  | 4 => x4
  | 5 => x5
  | 6 => x6
  | 7 => x7
  | 8 => x8
  | _ => x9
theorem tF_00 : ∀ k, tF (fun _ _ => false) (fun _ => 0) (fun _ => 0) k = 0 := fun k => by
  unfold tF
  split
  · exact mM_0.symm
  · split <;> rfl
theorem m0_00 : ∀ k, nI (m0 0 k) = 0 := fun k => by
  unfold m0
  split <;> rfl
def dp20 : Nat → Nat := va_up (va_up (va_up (fun _ => 0) 0 20) 1 20) 2 20
theorem JJ_init : JJ 0 0 (fun _ => 0) (fun _ => some 0) (fun _ => nI 0) (fun _ => false) (fun _ => 0) (fun _ => nI 0) (fun _ => some 0) (fun _ => 0) (fun _ _ => false) dp20 (fun _ => 0) (fun _ => 0) (fun _ => 0) (fun _ => nI 20) (fun _ => nI 0) (fun _ _ => nI 0) (fun _ _ => nI 0) (fun _ _ => false) (fun _ _ => 151) (fun _ _ => none) := by
  have hT : TV 0 (fun _ => 0) (fun _ => some 0) (fun _ => 0) := ⟨by decide, fun _ => by show 0 < 4; decide, fun _ => by show 0 ≤ 150; decide, fun k j h => absurd h (Nat.not_lt_zero _), fun k j h => absurd h (Nat.not_lt_zero _), fun k h => absurd h (Nat.not_lt_zero _)⟩
  have hN : NL 0 (fun _ => some 0) (fun _ => 0) (fun _ => false) (fun _ => 151) := by
    refine ⟨fun _ => Nat.le_refl _, fun q => ⟨fun h => absurd rfl h, ?_⟩, fun q k h => absurd h (Nat.not_lt_zero _), fun q h => absurd rfl h⟩
    rintro ⟨k, h, -⟩
    exact absurd h (Nat.not_lt_zero _)
  have hV : SV 0 (fun _ => 0) (fun _ => some 0) (fun _ => false) (fun _ => 0) (fun _ => nI 0) (fun _ => false) (fun _ => 151) (fun _ => none) := by
    refine ⟨fun k h => ?_, hN, fun d => rfl⟩
    cases h
  have hdp : ∀ i, i < 3 → dp20 i = 20 := fun i hi => by rcases (show i = 0 ∨ i = 1 ∨ i = 2 by omega) with rfl | rfl | rfl <;> rfl
  refine ⟨⟨hT, by decide, fun _ => by show 0 < 997; decide, fun k j h => by cases h; decide, fun k h => absurd h (Nat.not_lt_zero _), fun k h => absurd h (Nat.not_lt_zero _)⟩, fun i hi => ⟨hV, fun k => rfl, by rw [hdp i hi], by rw [hdp i hi]; decide, rfl, fun _ _ => rfl, fun _ _ => rfl, fun _ _ => Nat.le_refl _, fun _ _ _ _ _ h => absurd rfl h⟩, fun _ => Nat.le_refl _, fun _ => Nat.le_refl _, fun _ => Nat.le_refl _, fun i => ?_⟩
  unfold dp20 va_up
  split
  · omega
  · split
    · omega
    · split
      · omega
      · exact Nat.zero_le _
abbrev hoPc (D : va_G) (ct : Nat → ClassId) (b L : Nat) (xs : Nat → Int32) : Array Value → State → Prop := va_Pc [.ref b] (fun U => va_X b L xs U U.heap ∧ b < U.heap.size ∧ KK D ct U ∧ TXA (fun q => U.heap.size ≤ q) U U.heap ∧ va_AO "RevisionStores$Store" U)
theorem ho_blind {D : va_G} {ct : Nat → ClassId} {b L : Nat} {xs : Nat → Int32} : FrameBlind (hoPc D ct b L xs) := fun a U g mk q => ⟨q.1, va_X.moved (u := U) (U := U.calling g mk a) (Vm.Alike.refl U.vm) q.2.1, q.2.2.1, q.2.2.2.1.call, q.2.2.2.2.1.call, va_AO.moved (u := U) (U := U.calling g mk a) (Vm.Alike.refl U.vm) q.2.2.2.2.2⟩
theorem ho_pre {D : va_G} {ct : Nat → ClassId} {b L : Nat} {xs : Nat → Int32} {s : State} {H : Heap} (hX : va_X b L xs s H) (hbl : b < H.size) (hK : KK D ct s) (hT : TXA (fun q => H.size ≤ q) s H) (hO : va_AO "RevisionStores$Store" s) : ∀ U : State, U.heap = H → s.WarmedH U.vm → hoPc D ct b L xs ([.ref b] : List Value).toArray U := fun U hU hW => ⟨rfl, by rw [hU]; exact va_X.moved hW.alike hX, by rw [hU]; exact hbl, hK.warm hW, by rw [hU]; exact hT.warm hW, va_AO.moved hW.alike hO⟩
set_option maxHeartbeats 8000000 in
set_option maxRecDepth 100000 in
theorem cL_holds_ok (l : Launch) (hlt : l.stackTraces = false) (D : va_G) (ct : Nat → ClassId) (b L : Nat) (xs : Nat → Int32) (hL : L ≤ 260) : Met l yL_holds wsL_holds ({ frames := 11, cells := 200, slots := 3300, locals := 420 } : Room) (hoPc D ct b L xs) (va_Qi (fun (r9 : Int32) (_ : Unit) => r9 = bI true) (fun _ _ => True) (fun _ => False)) 200 3300 (fun _ => False) := by
  refine Met.ofW (cc := cL_holds) (maxL := 14) (ret := (some .boolean)) (by decide) rfl ?_
  intro p e s m args below meth c s₁ B hml hv
  obtain ⟨rfl, hX, hbl, hK, hT, hO⟩ := hv
  have hx := B.exec
  have hb := B.bytes
  have hr := B.returns
  have hts := atoms_spec (ws := wsL_holds) B.pre
  have hown : s.vm.findClass RL = some m.cls := findClass_of_methodNamed B.named
  have hlocks := B.notSynchronized
  have hA : ∀ q : Nat, s.heap.size ≤ q → (fun q : Nat => s.heap.size ≤ q) q := fun _ h => h
  have hS : va_S (fun q : Nat => s.heap.size ≤ q) s.heap s.heap [] := va_S.rf
  have hP : va_P D vwCl [] s.heap := fun k q h => by simp at h
  have hD : va_D (fun q : Nat => s.heap.size ≤ q) [] := ⟨fun i j p q h => by simp at h, fun k q h => by simp at h⟩
  have hl := lv_entry ([.ref b]) (n := 14) (Nat.le_of_ble_eq_true rfl)
  rw [lg_entry_eq]
  generalize (lg_sl ([.ref b]) ++ List.replicate (14 - (lg_sl ([.ref b])).length) Slot.unset).toArray = ls at hl ⊢
  have hl : lv_has ls 14 [(0, .ref b)] := hl
  refine va_new (ci := 3) (fs := [.null, .null, .null]) (C := RX3) (T := TX3) (N := 3) hx hb hts (fun _ h => List.mem_cons_of_mem _ (List.mem_append_left _ (List.mem_append_left _ (List.mem_append_left _ (List.mem_append_left _ (List.mem_append_left _ (List.mem_append_left _ (List.mem_append_right _ h)))))))) tyX3 tyX3_ok hown (hts (.classLink RL 44 RX3) (List.mem_of_getElem? (i := 1) rfl)) (hts (.instantiable RX3 3) (List.mem_of_getElem? (i := 2) rfl)) (hts (.initialized RX3) (List.mem_of_getElem? (i := 3) rfl)) hK.1 hP hD hS hA rfl (fun j hj => by rcases (show j = 0 ∨ j = 1 ∨ j = 2 by omega) with rfl | rfl | rfl <;> rfl) (Nat.le_of_ble_eq_true rfl) (Nat.le_of_ble_eq_true rfl) dL_holds_0 (fun q0 H hP hD hS => ?_)
  have hP : va_P D vwCl [(q0, .inr (3, [.null, .null, .null]))] H := hP
  have hD : va_D (fun q : Nat => s.heap.size ≤ q) [(q0, .inr (3, [.null, .null, .null]))] := hD
  refine W.widen (k := 1) (n := 3) (by decide) (by decide) ?_
  refine lv_dup hx hb dL_holds_3 rfl ?_
  refine r_iniX (rest := [.ref q0]) (wr := []) ⟨hx, hb, hml, hown, hts⟩ (cX3_init_ok l D ct q0 H.size) (cwI 0 hts gL_holds_X3_init rfl rfl rfl (hts (.initialized RX3) (List.mem_of_getElem? (i := 3) rfl)) (hts (.methodLink RL 136 yX3_init) (List.mem_of_getElem? (i := 6) rfl)) (hts (.instanceMethod yX3_init) (List.mem_of_getElem? (i := 7) rfl)) rfl (by decide +kernel) ⟨Nat.le_of_ble_eq_true rfl, Nat.le_of_ble_eq_true rfl⟩) hK hO hP hD hS hA [0] [] rfl rfl rfl rfl (by decide) hl.1 rfl (Nat.le_of_ble_eq_true rfl) dL_holds_4 ⟨Nat.le_of_ble_eq_true rfl, Nat.le_of_ble_eq_true rfl⟩ (fun z H locs hu hP hD hS => ?_)
  obtain ⟨r, a, u, sa, ha⟩ := z
  have hu : r 0 = q0 := hu
  rw [← hu]
  refine W.widen (k := 34) (n := 2195) (by decide) (by decide) ?_
  refine lv_astore_n (lv' := [(1, .ref (r 0)), (0, .ref b)]) hx hb dL_holds_7 rfl hl (by decide) rfl (fun ls hl => ?_)
  obtain ⟨X0, hX0⟩ : ∃ z, z = wX ct r a u sa ha 0 (fun _ => 0) (fun _ => some 0) (fun _ => nI 0) (fun _ => false) (fun _ => 0) (fun _ => nI 0) (fun _ => false) (fun _ => 151) (fun _ => none) (fun _ => nI 20) (fun _ => nI 0) (fun _ _ => nI 0) (fun _ _ => nI 0) (fun _ _ => false) (fun _ _ => 151) (fun _ _ => none) := ⟨_, rfl⟩
  have hP : va_P D vwCl X0 H := by rw [hX0]; exact hP
  have hD : va_D (fun q : Nat => s.heap.size ≤ q) X0 := by rw [hX0]; exact hD
  refine lv_bipush (v := nI 24) hx hb dL_holds_8 (by decide) ?_
  refine r_newi (N := 24) hx hb (hts (.arrayClass .int) (List.mem_of_getElem? (i := 4) rfl)) hK hP hD hS hA (fun k => nI ((fun (_ : Nat) => 0) k)) (fun _ => rfl) (by decide) (Nat.le_of_ble_eq_true rfl) (Nat.le_of_ble_eq_true rfl) dL_holds_10 (fun b0 H hP hD hS => ?_)
  refine W.widen (k := 35) (n := 2219) (by decide) (by decide) ?_
  refine lv_astore_n (lv' := [(2, .ref b0), (1, .ref (r 0)), (0, .ref b)]) hx hb dL_holds_12 rfl hl (by decide) rfl (fun ls hl => ?_)
  refine lv_bipush (v := nI 24) hx hb dL_holds_13 (by decide) ?_
  refine r_newi (N := 24) hx hb (hts (.arrayClass .int) (List.mem_of_getElem? (i := 4) rfl)) hK hP hD hS hA (fun k => eP ((fun (_ : Nat) => some 0) k)) (fun _ => rfl) (by decide) (Nat.le_of_ble_eq_true rfl) (Nat.le_of_ble_eq_true rfl) dL_holds_15 (fun b1 H hP hD hS => ?_)
  refine W.widen (k := 36) (n := 2243) (by decide) (by decide) ?_
  refine lv_astore_n (lv' := [(3, .ref b1), (2, .ref b0), (1, .ref (r 0)), (0, .ref b)]) hx hb dL_holds_17 rfl hl (by decide) rfl (fun ls hl => ?_)
  refine lv_bipush (v := nI 24) hx hb dL_holds_18 (by decide) ?_
  refine r_newi (N := 24) hx hb (hts (.arrayClass .int) (List.mem_of_getElem? (i := 4) rfl)) hK hP hD hS hA (fun k => eP ((fun (_ : Nat) => some 0) k)) (fun _ => rfl) (by decide) (Nat.le_of_ble_eq_true rfl) (Nat.le_of_ble_eq_true rfl) dL_holds_20 (fun b2 H hP hD hS => ?_)
  refine W.widen (k := 37) (n := 2267) (by decide) (by decide) ?_
  refine lv_astore (lv' := [(4, .ref b2), (3, .ref b1), (2, .ref b0), (1, .ref (r 0)), (0, .ref b)]) hx hb dL_holds_22 hl (by decide) rfl (fun ls hl => ?_)
  refine lv_bipush (v := nI 24) hx hb dL_holds_24 (by decide) ?_
  refine r_newi (N := 24) hx hb (hts (.arrayClass .int) (List.mem_of_getElem? (i := 4) rfl)) hK hP hD hS hA (fun k => nI ((fun (_ : Nat) => 0) k)) (fun _ => rfl) (by decide) (Nat.le_of_ble_eq_true rfl) (Nat.le_of_ble_eq_true rfl) dL_holds_26 (fun b3 H hP hD hS => ?_)
  refine W.widen (k := 38) (n := 2291) (by decide) (by decide) ?_
  refine lv_astore (lv' := [(5, .ref b3), (4, .ref b2), (3, .ref b1), (2, .ref b0), (1, .ref (r 0)), (0, .ref b)]) hx hb dL_holds_28 hl (by decide) rfl (fun ls hl => ?_)
  refine lv_bipush (v := nI 24) hx hb dL_holds_30 (by decide) ?_
  refine r_newi (N := 24) hx hb (hts (.arrayClass .int) (List.mem_of_getElem? (i := 4) rfl)) hK hP hD hS hA (fun k => nI ((fun (_ : Nat) => 0) k)) (fun _ => rfl) (by decide) (Nat.le_of_ble_eq_true rfl) (Nat.le_of_ble_eq_true rfl) dL_holds_32 (fun b4 H hP hD hS => ?_)
  refine W.widen (k := 39) (n := 2315) (by decide) (by decide) ?_
  refine lv_astore (lv' := [(6, .ref b4), (5, .ref b3), (4, .ref b2), (3, .ref b1), (2, .ref b0), (1, .ref (r 0)), (0, .ref b)]) hx hb dL_holds_34 hl (by decide) rfl (fun ls hl => ?_)
  refine lv_bipush (v := nI 24) hx hb dL_holds_36 (by decide) ?_
  refine r_newi (N := 24) hx hb (hts (.arrayClass .int) (List.mem_of_getElem? (i := 4) rfl)) hK hP hD hS hA (fun k => mM ((fun (_ _ : Nat) => false) k)) (fun _ => mM_0.symm) (by decide) (Nat.le_of_ble_eq_true rfl) (Nat.le_of_ble_eq_true rfl) dL_holds_38 (fun b5 H hP hD hS => ?_)
  refine W.widen (k := 40) (n := 2339) (by decide) (by decide) ?_
  refine lv_astore (lv' := [(7, .ref b5), (6, .ref b4), (5, .ref b3), (4, .ref b2), (3, .ref b1), (2, .ref b0), (1, .ref (r 0)), (0, .ref b)]) hx hb dL_holds_40 hl (by decide) rfl (fun ls hl => ?_)
  refine lv_bipush (v := nI 11) hx hb dL_holds_42 (by decide) ?_
  refine r_newi (N := 11) hx hb (hts (.arrayClass .int) (List.mem_of_getElem? (i := 4) rfl)) hK hP hD hS hA (tF (fun _ _ => false) (fun _ => 0) (fun _ => 0)) (tF_00) (by decide) (Nat.le_of_ble_eq_true rfl) (Nat.le_of_ble_eq_true rfl) dL_holds_44 (fun b6 H hP hD hS => ?_)
  refine W.widen (k := 41) (n := 2350) (by decide) (by decide) ?_
  refine lv_astore (lv' := [(8, .ref b6), (7, .ref b5), (6, .ref b4), (5, .ref b3), (4, .ref b2), (3, .ref b1), (2, .ref b0), (1, .ref (r 0)), (0, .ref b)]) hx hb dL_holds_46 hl (by decide) rfl (fun ls hl => ?_)
  refine lv_bipush (v := nI 12) hx hb dL_holds_48 (by decide) ?_
  refine r_newi (N := 12) hx hb (hts (.arrayClass .int) (List.mem_of_getElem? (i := 4) rfl)) hK hP hD hS hA (fun k => nI ((fun (_ : Nat) => 0) k)) (fun _ => rfl) (by decide) (Nat.le_of_ble_eq_true rfl) (Nat.le_of_ble_eq_true rfl) dL_holds_50 (fun b7 H hP hD hS => ?_)
  refine W.widen (k := 42) (n := 2362) (by decide) (by decide) ?_
  refine lv_astore (lv' := [(9, .ref b7), (8, .ref b6), (7, .ref b5), (6, .ref b4), (5, .ref b3), (4, .ref b2), (3, .ref b1), (2, .ref b0), (1, .ref (r 0)), (0, .ref b)]) hx hb dL_holds_52 hl (by decide) rfl (fun ls hl => ?_)
  refine lv_bipush (v := nI 27) hx hb dL_holds_54 (by decide) ?_
  refine r_newi (N := 27) hx hb (hts (.arrayClass .int) (List.mem_of_getElem? (i := 4) rfl)) hK hP hD hS hA (fun k => nI ((fun (_ : Nat) => 0) k)) (fun _ => rfl) (by decide) (Nat.le_of_ble_eq_true rfl) (Nat.le_of_ble_eq_true rfl) dL_holds_56 (fun b8 H hP hD hS => ?_)
  refine W.widen (k := 43) (n := 2389) (by decide) (by decide) ?_
  refine lv_astore (lv' := [(10, .ref b8), (9, .ref b7), (8, .ref b6), (7, .ref b5), (6, .ref b4), (5, .ref b3), (4, .ref b2), (3, .ref b1), (2, .ref b0), (1, .ref (r 0)), (0, .ref b)]) hx hb dL_holds_58 hl (by decide) rfl (fun ls hl => ?_)
  refine lv_iconst (v := nI 1) hx hb dL_holds_60 (by decide) ?_
  refine r_newi (N := 1) hx hb (hts (.arrayClass .int) (List.mem_of_getElem? (i := 4) rfl)) hK hP hD hS hA (fun j => nI (m0 0 j)) (m0_00) (by decide) (Nat.le_of_ble_eq_true rfl) (Nat.le_of_ble_eq_true rfl) dL_holds_61 (fun b9 H hP hD hS => ?_)
  refine W.widen (k := 44) (n := 2390) (by decide) (by decide) ?_
  refine lv_astore (lv' := [(11, .ref b9), (10, .ref b8), (9, .ref b7), (8, .ref b6), (7, .ref b5), (6, .ref b4), (5, .ref b3), (4, .ref b2), (3, .ref b1), (2, .ref b0), (1, .ref (r 0)), (0, .ref b)]) hx hb dL_holds_63 hl (by decide) rfl (fun ls hl => ?_)
  have eW : ((((((((((X0 ++ [(b0, .inl (ct 0, 24, .inl (fun k => nI ((fun (_ : Nat) => 0) k))))]) ++ [(b1, .inl (ct 0, 24, .inl (fun k => eP ((fun (_ : Nat) => some 0) k))))]) ++ [(b2, .inl (ct 0, 24, .inl (fun k => eP ((fun (_ : Nat) => some 0) k))))]) ++ [(b3, .inl (ct 0, 24, .inl (fun k => nI ((fun (_ : Nat) => 0) k))))]) ++ [(b4, .inl (ct 0, 24, .inl (fun k => nI ((fun (_ : Nat) => 0) k))))]) ++ [(b5, .inl (ct 0, 24, .inl (fun k => mM ((fun (_ _ : Nat) => false) k))))]) ++ [(b6, .inl (ct 0, 11, .inl (tF (fun _ _ => false) (fun _ => 0) (fun _ => 0))))]) ++ [(b7, .inl (ct 0, 12, .inl (fun k => nI ((fun (_ : Nat) => 0) k))))]) ++ [(b8, .inl (ct 0, 27, .inl (fun k => nI ((fun (_ : Nat) => 0) k))))]) ++ [(b9, .inl (ct 0, 1, .inl (fun j => nI (m0 0 j))))]) = fl (uW ct r a u sa ha (adB b0 b1 b2 b3 b4 b5 b6 b7 b8 b9) 0 (fun _ => 0) (fun _ => some 0) (fun _ => nI 0) (fun _ => false) (fun _ => 0) (fun _ => nI 0) (fun _ => false) (fun _ => 151) (fun _ => none) (fun _ => nI 20) (fun _ => nI 0) (fun _ _ => nI 0) (fun _ _ => nI 0) (fun _ _ => false) (fun _ _ => 151) (fun _ _ => none) 0 (fun _ => 0) (fun _ => some 0) (fun _ => 0) (fun _ => some 0) (fun _ => 0) (fun _ _ => false) (fun _ _ => false) (fun _ => 0) (fun _ => 0) (fun _ => 0) (fun _ => 0)) := by rw [hX0]; rfl
  have hP := (congrArg (fun z => va_P D vwCl z H) eW).mp hP
  have hD := (congrArg (fun z => va_D (fun q : Nat => s.heap.size ≤ q) z) eW).mp hD
  refine lv_aload hx hb dL_holds_65 (lv_at hl 3 rfl) ?_
  refine lv_iconst (v := nI 4) hx hb dL_holds_67 (by decide) ?_
  refine lv_bipush (v := nI 20) hx hb dL_holds_68 (by decide) ?_
  refine r_iast (j := 4) (x := nI 20) (f' := tF (fun _ _ => false) (va_up (fun _ => 0) 0 20) (fun _ => 0)) hx hb hK.1 hP hD hS 40 0 rfl rfl (by decide) (by decide) (tU_d (i := 0) (by decide)) dL_holds_70 (fun H locs hP hD hS => ?_)
  have hP : va_P D vwCl (fl (uW ct r a u sa ha (adB b0 b1 b2 b3 b4 b5 b6 b7 b8 b9) 0 (fun _ => 0) (fun _ => some 0) (fun _ => nI 0) (fun _ => false) (fun _ => 0) (fun _ => nI 0) (fun _ => false) (fun _ => 151) (fun _ => none) (fun _ => nI 20) (fun _ => nI 0) (fun _ _ => nI 0) (fun _ _ => nI 0) (fun _ _ => false) (fun _ _ => 151) (fun _ _ => none) 0 (fun _ => 0) (fun _ => some 0) (fun _ => 0) (fun _ => some 0) (fun _ => 0) (fun _ _ => false) (fun _ _ => false) (va_up (fun _ => 0) 0 20) (fun _ => 0) (fun _ => 0) (fun _ => 0))) H := hP
  have hD : va_D (fun q : Nat => s.heap.size ≤ q) (fl (uW ct r a u sa ha (adB b0 b1 b2 b3 b4 b5 b6 b7 b8 b9) 0 (fun _ => 0) (fun _ => some 0) (fun _ => nI 0) (fun _ => false) (fun _ => 0) (fun _ => nI 0) (fun _ => false) (fun _ => 151) (fun _ => none) (fun _ => nI 20) (fun _ => nI 0) (fun _ _ => nI 0) (fun _ _ => nI 0) (fun _ _ => false) (fun _ _ => 151) (fun _ _ => none) 0 (fun _ => 0) (fun _ => some 0) (fun _ => 0) (fun _ => some 0) (fun _ => 0) (fun _ _ => false) (fun _ _ => false) (va_up (fun _ => 0) 0 20) (fun _ => 0) (fun _ => 0) (fun _ => 0))) := hD
  refine lv_aload hx hb dL_holds_71 (lv_at hl 3 rfl) ?_
  refine lv_iconst (v := nI 5) hx hb dL_holds_73 (by decide) ?_
  refine lv_bipush (v := nI 20) hx hb dL_holds_74 (by decide) ?_
  refine r_iast (j := 5) (x := nI 20) (f' := tF (fun _ _ => false) (va_up (va_up (fun _ => 0) 0 20) 1 20) (fun _ => 0)) hx hb hK.1 hP hD hS 40 0 rfl rfl (by decide) (by decide) (tU_d (i := 1) (by decide)) dL_holds_76 (fun H locs hP hD hS => ?_)
  have hP : va_P D vwCl (fl (uW ct r a u sa ha (adB b0 b1 b2 b3 b4 b5 b6 b7 b8 b9) 0 (fun _ => 0) (fun _ => some 0) (fun _ => nI 0) (fun _ => false) (fun _ => 0) (fun _ => nI 0) (fun _ => false) (fun _ => 151) (fun _ => none) (fun _ => nI 20) (fun _ => nI 0) (fun _ _ => nI 0) (fun _ _ => nI 0) (fun _ _ => false) (fun _ _ => 151) (fun _ _ => none) 0 (fun _ => 0) (fun _ => some 0) (fun _ => 0) (fun _ => some 0) (fun _ => 0) (fun _ _ => false) (fun _ _ => false) (va_up (va_up (fun _ => 0) 0 20) 1 20) (fun _ => 0) (fun _ => 0) (fun _ => 0))) H := hP
  have hD : va_D (fun q : Nat => s.heap.size ≤ q) (fl (uW ct r a u sa ha (adB b0 b1 b2 b3 b4 b5 b6 b7 b8 b9) 0 (fun _ => 0) (fun _ => some 0) (fun _ => nI 0) (fun _ => false) (fun _ => 0) (fun _ => nI 0) (fun _ => false) (fun _ => 151) (fun _ => none) (fun _ => nI 20) (fun _ => nI 0) (fun _ _ => nI 0) (fun _ _ => nI 0) (fun _ _ => false) (fun _ _ => 151) (fun _ _ => none) 0 (fun _ => 0) (fun _ => some 0) (fun _ => 0) (fun _ => some 0) (fun _ => 0) (fun _ _ => false) (fun _ _ => false) (va_up (va_up (fun _ => 0) 0 20) 1 20) (fun _ => 0) (fun _ => 0) (fun _ => 0))) := hD
  refine lv_aload hx hb dL_holds_77 (lv_at hl 3 rfl) ?_
  refine lv_bipush (v := nI 6) hx hb dL_holds_79 (by decide) ?_
  refine lv_bipush (v := nI 20) hx hb dL_holds_81 (by decide) ?_
  refine r_iast (j := 6) (x := nI 20) (f' := tF (fun _ _ => false) (va_up (va_up (va_up (fun _ => 0) 0 20) 1 20) 2 20) (fun _ => 0)) hx hb hK.1 hP hD hS 40 0 rfl rfl (by decide) (by decide) (tU_d (i := 2) (by decide)) dL_holds_83 (fun H locs hP hD hS => ?_)
  have hP : va_P D vwCl (fl (uW ct r a u sa ha (adB b0 b1 b2 b3 b4 b5 b6 b7 b8 b9) 0 (fun _ => 0) (fun _ => some 0) (fun _ => nI 0) (fun _ => false) (fun _ => 0) (fun _ => nI 0) (fun _ => false) (fun _ => 151) (fun _ => none) (fun _ => nI 20) (fun _ => nI 0) (fun _ _ => nI 0) (fun _ _ => nI 0) (fun _ _ => false) (fun _ _ => 151) (fun _ _ => none) 0 (fun _ => 0) (fun _ => some 0) (fun _ => 0) (fun _ => some 0) (fun _ => 0) (fun _ _ => false) (fun _ _ => false) (va_up (va_up (va_up (fun _ => 0) 0 20) 1 20) 2 20) (fun _ => 0) (fun _ => 0) (fun _ => 0))) H := hP
  have hD : va_D (fun q : Nat => s.heap.size ≤ q) (fl (uW ct r a u sa ha (adB b0 b1 b2 b3 b4 b5 b6 b7 b8 b9) 0 (fun _ => 0) (fun _ => some 0) (fun _ => nI 0) (fun _ => false) (fun _ => 0) (fun _ => nI 0) (fun _ => false) (fun _ => 151) (fun _ => none) (fun _ => nI 20) (fun _ => nI 0) (fun _ _ => nI 0) (fun _ _ => nI 0) (fun _ _ => false) (fun _ _ => 151) (fun _ _ => none) 0 (fun _ => 0) (fun _ => some 0) (fun _ => 0) (fun _ => some 0) (fun _ => 0) (fun _ _ => false) (fun _ _ => false) (va_up (va_up (va_up (fun _ => 0) 0 20) 1 20) 2 20) (fun _ => 0) (fun _ => 0) (fun _ => 0))) := hD
  refine lv_iconst (v := nI 1) hx hb dL_holds_84 (by decide) ?_
  refine lv_istore (lv' := [(12, .int (nI 1)), (11, .ref b9), (10, .ref b8), (9, .ref b7), (8, .ref b6), (7, .ref b5), (6, .ref b4), (5, .ref b3), (4, .ref b2), (3, .ref b1), (2, .ref b0), (1, .ref (r 0)), (0, .ref b)]) hx hb dL_holds_85 hl (by decide) rfl (fun ls hl => ?_)
  refine lv_iconst (v := nI 0) hx hb dL_holds_87 (by decide) ?_
  refine lv_istore (lv' := [(13, .int (nI 0)), (12, .int (nI 1)), (11, .ref b9), (10, .ref b8), (9, .ref b7), (8, .ref b6), (7, .ref b5), (6, .ref b4), (5, .ref b3), (4, .ref b2), (3, .ref b1), (2, .ref b0), (1, .ref (r 0)), (0, .ref b)]) hx hb dL_holds_88 hl (by decide) rfl (fun ls hl => ?_)
  refine W.widen (k := 44 + 2 * 0) (n := 2400 + 12 * 0) (by decide) (by decide) ?_
  exact holds_loop (Ba := adB b0 b1 b2 b3 b4 b5 b6 b7 b8 b9) hlt hL hx hb hr hml hown hts hK hT hX hbl hlocks 71 0 (by decide) (by decide) _ H _ ls (GW_mk JJ_init) hP hD hS hl
