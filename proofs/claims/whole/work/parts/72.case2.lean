set_option maxHeartbeats 8000000 in
set_option maxRecDepth 100000 in
theorem lc_valueOf {p : Program} {l : Launch} {e : Env} {s : State} {m : MethodId} {below : List Frame} {meth : Method} {c : Code} {b L : Nat} {xs : Nat → Int32} (hL : L ≤ 2560) (C0 : lw_At p s m meth c b L xs) {D : va_G} {ct : Nat → ClassId} (hK : KK D ct s) {r g : Nat → Nat} {o k cells slots : Nat} {mc ms kx f2 q2 : Nat} (hk : 5 * k + 5 ≤ L) (hcells : cells + mc ≤ 601024) (hslots : slots + ms ≤ 7293034) {Ls Cs C1 : List va_W} {wc w1 M0 M1 : va_W} {v2 : Int32} {ov : Int64} (is : List Nat) {fs fs1 : List Value} (hM1 : ∀ sz, Met l yL_valueOf wsL_valueOf ({ frames := 9, cells := mc, slots := ms, locals := 300 } : Room) (wrPcT D ct [.ref (r 0), .int (xs (5 * k + 1)), .ref o] wc sz) (wqI D (nI kx) w1 (va_A wc sz)) mc ms (va_A wc sz)) (hwc : wc = fl Cs) (hw1 : w1 = fl C1) (hC : is.map (fun i => Ls[i]?) = Cs.map some) (hnd : va_nd is = true) (had : C1.map (·.map Prod.fst) = Cs.map (·.map Prod.fst)) (hM2 : ∀ sz, Met l yX4_valueOf wsX4_valueOf ({ frames := f2, cells := 0, slots := 0, locals := q2 } : Room) (wrPc D ct [.ref (g 0), .int (xs (5 * k + 1))] M0 sz) (wqI D v2 M1 (va_A M0 sz)) 0 0 (va_A M0 sz)) (hf2 : f2 ≤ 10) (hq2 : q2 ≤ 370) (h9 : (jnG Ls is C1)[9]? = some M0) (hadM : M1.map Prod.fst = M0.map Prod.fst) (he0 : M0[0]? = some (g 0, .inr (4, fs))) (hth : Met l yX4_thrown wsX4_thrown ({ frames := 0, cells := 0, slots := 0, locals := 0 } : Room) (roPc D ct [.ref (g 0)] M1) (rqI (nI kx)) 0 0 (fun _ => False)) (he1 : M1[0]? = some (g 0, .inr (4, fs1))) (h10 : (jnG (jnG Ls is C1) [9] [M1])[10]? = some (wO ct o ov)) (hcmp : kx = 0 → ov = v2.toInt64) (hkx : kx < 4) (hnx : LSa p l e s m below meth c b D r g o 1547 k (jnG (jnG Ls is C1) [9] [M1]) (cells + mc) (slots + ms)) : LSa p l e s m below meth c b D r g o 889 k Ls (cells) (slots) := by
  obtain ⟨hx, hb, hr, hml, hown, hts, hX, hbl, hlocks, hgv⟩ := C0
  have hts := fun w h => hts w (wsL_law_in w h)
  have hown : s.vm.findClass RL = some m.cls := hown
  have hb : c.code = cL_law := hb
  intro H locs hP hD hS hT ls hl
  have hA : ∀ q : Nat, s.heap.size ≤ q → (fun q : Nat => s.heap.size ≤ q) q := fun _ h => h
  refine lv_aload_n hx hb dL_law_889 rfl (lv_at hl 1 rfl) ?_
  refine lv_aload_n hx hb dL_law_890 rfl (lv_at hl 0 rfl) ?_
  refine lv_iload hx hb dL_law_891 (lv_at hl 4 rfl) ?_
  refine lv_iconst (v := nI 1) hx hb dL_law_893 (by decide) ?_
  refine r_iaddN hx hb dL_law_894 ?_
  refine r_sld (j := 5 * k + 1) hx hb hX hbl hS (by omega) hL dL_law_895 ?_
  refine lv_aload_n hx hb dL_law_896 rfl (lv_at hl 3 rfl) ?_
  have hT0 : TXA (fun _ => False) s H := hT.narrow (fun _ h9 => h9.elim)
  refine r_gS (As := [.ref (r 0), .int (xs (5 * k + 1)), .ref o]) (rest := []) ⟨hx, hb, hml, hown, hts⟩ (hM1 _) hwc hw1 (vx_cwSW 3 hts gL_law_L_valueOf rfl rfl rfl (by decide +kernel) ⟨Nat.le_of_ble_eq_true rfl, Nat.le_of_ble_eq_true rfl⟩) hK hT0 hP hD hS hA is hC hnd had rfl hl.1 rfl (Nat.le_of_ble_eq_true rfl) dL_law_897 ⟨hcells, hslots⟩ (fun H1 locs hP hD hS hz1 hk1 => ?_)
  have hT := hT.kept hk1
  refine lv_istore (lv' := [(5, .int (nI kx)), (0, .ref b), (1, .ref (r 0)), (2, .ref (g 0)), (3, .ref o), (4, .int (nI (5 * k)))]) hx hb dL_law_900 hl (by decide) rfl (fun ls hl => ?_)
  refine lv_aload_n hx hb dL_law_902 rfl (lv_at hl 3 rfl) ?_
  refine lv_aload_n hx hb dL_law_903 rfl (lv_at hl 1 rfl) ?_
  refine lv_iload hx hb dL_law_904 (lv_at hl 5 rfl) ?_
  refine lv_iconst (v := nI 1) hx hb dL_law_906 (by decide) ?_
  refine r_iaddN hx hb dL_law_907 ?_
  refine r_sld (j := 5 * k + 1) hx hb hX hbl hS (by omega) hL dL_law_908 ?_
  refine r_gV (As := [.int (xs (5 * k + 1))]) (rest := []) (Cs := [M0]) (C1 := [M1]) ⟨hx, hb, hml, hown, hts⟩ (hM2 _) (fl1 _) (fl1 _) (cwV 1 hts gL_law_X4_valueOf rfl rfl rfl (by decide +kernel) ⟨by show f2 + 1 ≤ 11; omega, by show 8 + (2 + 11) + q2 ≤ 416; omega⟩) hK hP hD hS hA [9] (by simp only [List.map_cons, List.map_nil, h9]) rfl (by simp only [List.map_cons, List.map_nil, hadM]) 0 4 he0 rfl rfl hl.1 rfl (Nat.le_of_ble_eq_true rfl) dL_law_909 ⟨hcells, hslots⟩ (fun H2 locs hP hD hS hz2 hk2 => ?_)
  have hT := hT.kept hk2
  refine lv_istore (lv' := [(6, .int (v2)), (5, .int (nI kx)), (0, .ref b), (1, .ref (r 0)), (2, .ref (g 0)), (3, .ref o), (4, .int (nI (5 * k)))]) hx hb dL_law_912 hl (by decide) rfl (fun ls hl => ?_)
  refine lv_aload_n hx hb dL_law_914 rfl (lv_at hl 4 rfl) ?_
  have h9M : (jnG (jnG Ls is C1) [9] [M1])[9]? = some M1 := by show ((jnG Ls is C1).set 9 M1)[9]? = some M1; rw [List.getElem?_set_self (List.getElem?_eq_some_iff.mp h9).1]
  refine r_gR (As := []) (rest := []) (Cs := [M1]) ⟨hx, hb, hml, hown, hts⟩ hth (fl1 _) (cwV 0 hts gL_law_X4_thrown rfl rfl rfl (by decide +kernel) ⟨Nat.le_of_ble_eq_true rfl, Nat.le_of_ble_eq_true rfl⟩) hK hP [9] (by simp only [List.map_cons, List.map_nil, h9M]) 0 4 he1 rfl rfl hl.1 rfl (Nat.le_of_ble_eq_true rfl) dL_law_915 ⟨hcells, hslots⟩ ?_
  refine lv_iload hx hb dL_law_918 (lv_at hl 1 rfl) ?_
  refine lv_icmp_eq (x := nI kx) (y := nI kx) (tgt := 925) hx hb dL_law_920 (by decide) (fun _ => ?_) (fun h => absurd rfl h)
  refine lv_iload hx hb dL_law_925 (lv_at hl 1 rfl) ?_
  refine r_if_neN hx hb (x := kx) (by omega) (tgt := 942) dL_law_927 (by decide) (fun c0 => ?_) (fun c0 => ?_)
  · refine lv_goto (tgt := 1547) hx hb dL_law_942 (by decide) ?_
    exact hnx _ _ hP hD hS hT ls (lv_sub hl [2, 3, 4, 5, 6] rfl)
  · refine lv_aload_n hx hb dL_law_930 rfl (lv_at hl 5 rfl) ?_
    refine lv_iconst (v := nI 0) hx hb dL_law_931 (by decide) ?_
    refine r_out hx hb hK hP h10 dL_law_932 ?_
    refine lv_iload hx hb dL_law_933 (lv_at hl 0 rfl) ?_
    refine lv_i2l (v := v2.toInt64) hx hb dL_law_935 rfl ?_
    refine r_lcmpE (hcmp c0) hx hb (tgt := 942) (pc2 := 0) dL_law_936 dL_law_937 (by decide) ?_
    refine lv_goto (tgt := 1547) hx hb dL_law_942 (by decide) ?_
    exact hnx _ _ hP hD hS hT ls (lv_sub hl [2, 3, 4, 5, 6] rfl)
set_option maxHeartbeats 8000000 in
set_option maxRecDepth 100000 in
theorem lc_sequence {p : Program} {l : Launch} {e : Env} {s : State} {m : MethodId} {below : List Frame} {meth : Method} {c : Code} {b L : Nat} {xs : Nat → Int32} (hL : L ≤ 2560) (C0 : lw_At p s m meth c b L xs) {D : va_G} {ct : Nat → ClassId} (hK : KK D ct s) {r g : Nat → Nat} {o k cells slots : Nat} {mc ms kx f2 q2 : Nat} (hk : 5 * k + 5 ≤ L) (hcells : cells + mc ≤ 601024) (hslots : slots + ms ≤ 7293034) {Ls Cs C1 : List va_W} {wc w1 M0 M1 : va_W} {v2 : Int32} {ov : Int64} (is : List Nat) {fs fs1 : List Value} (hM1 : ∀ sz, Met l yL_sequence wsL_sequence ({ frames := 9, cells := mc, slots := ms, locals := 300 } : Room) (wrPcT D ct [.ref (r 0), .int (xs (5 * k + 1)), .ref o] wc sz) (wqI D (nI kx) w1 (va_A wc sz)) mc ms (va_A wc sz)) (hwc : wc = fl Cs) (hw1 : w1 = fl C1) (hC : is.map (fun i => Ls[i]?) = Cs.map some) (hnd : va_nd is = true) (had : C1.map (·.map Prod.fst) = Cs.map (·.map Prod.fst)) (hM2 : ∀ sz, Met l yX4_sequence wsX4_sequence ({ frames := f2, cells := 0, slots := 0, locals := q2 } : Room) (wrPc D ct [.ref (g 0), .int (xs (5 * k + 1))] M0 sz) (wqI D v2 M1 (va_A M0 sz)) 0 0 (va_A M0 sz)) (hf2 : f2 ≤ 10) (hq2 : q2 ≤ 370) (h9 : (jnG Ls is C1)[9]? = some M0) (hadM : M1.map Prod.fst = M0.map Prod.fst) (he0 : M0[0]? = some (g 0, .inr (4, fs))) (hth : Met l yX4_thrown wsX4_thrown ({ frames := 0, cells := 0, slots := 0, locals := 0 } : Room) (roPc D ct [.ref (g 0)] M1) (rqI (nI kx)) 0 0 (fun _ => False)) (he1 : M1[0]? = some (g 0, .inr (4, fs1))) (h10 : (jnG (jnG Ls is C1) [9] [M1])[10]? = some (wO ct o ov)) (hcmp : kx = 0 → ov = v2.toInt64) (hkx : kx < 4) (hnx : LSa p l e s m below meth c b D r g o 1547 k (jnG (jnG Ls is C1) [9] [M1]) (cells + mc) (slots + ms)) : LSa p l e s m below meth c b D r g o 945 k Ls (cells) (slots) := by
  obtain ⟨hx, hb, hr, hml, hown, hts, hX, hbl, hlocks, hgv⟩ := C0
  have hts := fun w h => hts w (wsL_law_in w h)
  have hown : s.vm.findClass RL = some m.cls := hown
  have hb : c.code = cL_law := hb
  intro H locs hP hD hS hT ls hl
  have hA : ∀ q : Nat, s.heap.size ≤ q → (fun q : Nat => s.heap.size ≤ q) q := fun _ h => h
  refine lv_aload_n hx hb dL_law_945 rfl (lv_at hl 1 rfl) ?_
  refine lv_aload_n hx hb dL_law_946 rfl (lv_at hl 0 rfl) ?_
  refine lv_iload hx hb dL_law_947 (lv_at hl 4 rfl) ?_
  refine lv_iconst (v := nI 1) hx hb dL_law_949 (by decide) ?_
  refine r_iaddN hx hb dL_law_950 ?_
  refine r_sld (j := 5 * k + 1) hx hb hX hbl hS (by omega) hL dL_law_951 ?_
  refine lv_aload_n hx hb dL_law_952 rfl (lv_at hl 3 rfl) ?_
  have hT0 : TXA (fun _ => False) s H := hT.narrow (fun _ h9 => h9.elim)
  refine r_gS (As := [.ref (r 0), .int (xs (5 * k + 1)), .ref o]) (rest := []) ⟨hx, hb, hml, hown, hts⟩ (hM1 _) hwc hw1 (vx_cwSW 3 hts gL_law_L_sequence rfl rfl rfl (by decide +kernel) ⟨Nat.le_of_ble_eq_true rfl, Nat.le_of_ble_eq_true rfl⟩) hK hT0 hP hD hS hA is hC hnd had rfl hl.1 rfl (Nat.le_of_ble_eq_true rfl) dL_law_953 ⟨hcells, hslots⟩ (fun H1 locs hP hD hS hz1 hk1 => ?_)
  have hT := hT.kept hk1
  refine lv_istore (lv' := [(5, .int (nI kx)), (0, .ref b), (1, .ref (r 0)), (2, .ref (g 0)), (3, .ref o), (4, .int (nI (5 * k)))]) hx hb dL_law_956 hl (by decide) rfl (fun ls hl => ?_)
  refine lv_aload_n hx hb dL_law_958 rfl (lv_at hl 3 rfl) ?_
  refine lv_aload_n hx hb dL_law_959 rfl (lv_at hl 1 rfl) ?_
  refine lv_iload hx hb dL_law_960 (lv_at hl 5 rfl) ?_
  refine lv_iconst (v := nI 1) hx hb dL_law_962 (by decide) ?_
  refine r_iaddN hx hb dL_law_963 ?_
  refine r_sld (j := 5 * k + 1) hx hb hX hbl hS (by omega) hL dL_law_964 ?_
  refine r_gV (As := [.int (xs (5 * k + 1))]) (rest := []) (Cs := [M0]) (C1 := [M1]) ⟨hx, hb, hml, hown, hts⟩ (hM2 _) (fl1 _) (fl1 _) (cwV 1 hts gL_law_X4_sequence rfl rfl rfl (by decide +kernel) ⟨by show f2 + 1 ≤ 11; omega, by show 8 + (2 + 11) + q2 ≤ 416; omega⟩) hK hP hD hS hA [9] (by simp only [List.map_cons, List.map_nil, h9]) rfl (by simp only [List.map_cons, List.map_nil, hadM]) 0 4 he0 rfl rfl hl.1 rfl (Nat.le_of_ble_eq_true rfl) dL_law_965 ⟨hcells, hslots⟩ (fun H2 locs hP hD hS hz2 hk2 => ?_)
  have hT := hT.kept hk2
  refine lv_istore (lv' := [(6, .int (v2)), (5, .int (nI kx)), (0, .ref b), (1, .ref (r 0)), (2, .ref (g 0)), (3, .ref o), (4, .int (nI (5 * k)))]) hx hb dL_law_968 hl (by decide) rfl (fun ls hl => ?_)
  refine lv_aload_n hx hb dL_law_970 rfl (lv_at hl 4 rfl) ?_
  have h9M : (jnG (jnG Ls is C1) [9] [M1])[9]? = some M1 := by show ((jnG Ls is C1).set 9 M1)[9]? = some M1; rw [List.getElem?_set_self (List.getElem?_eq_some_iff.mp h9).1]
  refine r_gR (As := []) (rest := []) (Cs := [M1]) ⟨hx, hb, hml, hown, hts⟩ hth (fl1 _) (cwV 0 hts gL_law_X4_thrown rfl rfl rfl (by decide +kernel) ⟨Nat.le_of_ble_eq_true rfl, Nat.le_of_ble_eq_true rfl⟩) hK hP [9] (by simp only [List.map_cons, List.map_nil, h9M]) 0 4 he1 rfl rfl hl.1 rfl (Nat.le_of_ble_eq_true rfl) dL_law_971 ⟨hcells, hslots⟩ ?_
  refine lv_iload hx hb dL_law_974 (lv_at hl 1 rfl) ?_
  refine lv_icmp_eq (x := nI kx) (y := nI kx) (tgt := 981) hx hb dL_law_976 (by decide) (fun _ => ?_) (fun h => absurd rfl h)
  refine lv_iload hx hb dL_law_981 (lv_at hl 1 rfl) ?_
  refine r_if_neN hx hb (x := kx) (by omega) (tgt := 998) dL_law_983 (by decide) (fun c0 => ?_) (fun c0 => ?_)
  · refine lv_goto (tgt := 1547) hx hb dL_law_998 (by decide) ?_
    exact hnx _ _ hP hD hS hT ls (lv_sub hl [2, 3, 4, 5, 6] rfl)
  · refine lv_aload_n hx hb dL_law_986 rfl (lv_at hl 5 rfl) ?_
    refine lv_iconst (v := nI 0) hx hb dL_law_987 (by decide) ?_
    refine r_out hx hb hK hP h10 dL_law_988 ?_
    refine lv_iload hx hb dL_law_989 (lv_at hl 0 rfl) ?_
    refine lv_i2l (v := v2.toInt64) hx hb dL_law_991 rfl ?_
    refine r_lcmpE (hcmp c0) hx hb (tgt := 998) (pc2 := 0) dL_law_992 dL_law_993 (by decide) ?_
    refine lv_goto (tgt := 1547) hx hb dL_law_998 (by decide) ?_
    exact hnx _ _ hP hD hS hT ls (lv_sub hl [2, 3, 4, 5, 6] rfl)
set_option maxHeartbeats 8000000 in
set_option maxRecDepth 100000 in
theorem lc_has {p : Program} {l : Launch} {e : Env} {s : State} {m : MethodId} {below : List Frame} {meth : Method} {c : Code} {b L : Nat} {xs : Nat → Int32} (hL : L ≤ 2560) (C0 : lw_At p s m meth c b L xs) {D : va_G} {ct : Nat → ClassId} (hK : KK D ct s) {r g : Nat → Nat} {o k cells slots : Nat} {mc ms kx f2 q2 : Nat} (hk : 5 * k + 5 ≤ L) (hcells : cells + mc ≤ 601024) (hslots : slots + ms ≤ 7293034) {Ls Cs C1 : List va_W} {wc w1 M0 M1 : va_W} {v2 : Bool} {ov : Int64} (is : List Nat) {fs fs1 : List Value} (hM1 : ∀ sz, Met l yL_has wsL_has ({ frames := 9, cells := mc, slots := ms, locals := 300 } : Room) (wrPcT D ct [.ref (r 0), .int (xs (5 * k + 1)), .int (xs (5 * k + 2)), .ref o] wc sz) (wqI D (nI kx) w1 (va_A wc sz)) mc ms (va_A wc sz)) (hwc : wc = fl Cs) (hw1 : w1 = fl C1) (hC : is.map (fun i => Ls[i]?) = Cs.map some) (hnd : va_nd is = true) (had : C1.map (·.map Prod.fst) = Cs.map (·.map Prod.fst)) (hM2 : ∀ sz, Met l yX4_has wsX4_has ({ frames := f2, cells := 0, slots := 0, locals := q2 } : Room) (wrPc D ct [.ref (g 0), .int (xs (5 * k + 1)), .int (xs (5 * k + 2))] M0 sz) (wqI D (bI v2) M1 (va_A M0 sz)) 0 0 (va_A M0 sz)) (hf2 : f2 ≤ 10) (hq2 : q2 ≤ 370) (h9 : (jnG Ls is C1)[9]? = some M0) (hadM : M1.map Prod.fst = M0.map Prod.fst) (he0 : M0[0]? = some (g 0, .inr (4, fs))) (hth : Met l yX4_thrown wsX4_thrown ({ frames := 0, cells := 0, slots := 0, locals := 0 } : Room) (roPc D ct [.ref (g 0)] M1) (rqI (nI kx)) 0 0 (fun _ => False)) (he1 : M1[0]? = some (g 0, .inr (4, fs1))) (h10 : (jnG (jnG Ls is C1) [9] [M1])[10]? = some (wO ct o ov)) (hcmp : kx = 0 → ov = (if v2 = true then 1 else 0)) (hkx : kx < 4) (hnx : LSa p l e s m below meth c b D r g o 1547 k (jnG (jnG Ls is C1) [9] [M1]) (cells + mc) (slots + ms)) : LSa p l e s m below meth c b D r g o 1001 k Ls (cells) (slots) := by
  obtain ⟨hx, hb, hr, hml, hown, hts, hX, hbl, hlocks, hgv⟩ := C0
  have hts := fun w h => hts w (wsL_law_in w h)
  have hown : s.vm.findClass RL = some m.cls := hown
  have hb : c.code = cL_law := hb
  intro H locs hP hD hS hT ls hl
  have hA : ∀ q : Nat, s.heap.size ≤ q → (fun q : Nat => s.heap.size ≤ q) q := fun _ h => h
  refine lv_aload_n hx hb dL_law_1001 rfl (lv_at hl 1 rfl) ?_
  refine lv_aload_n hx hb dL_law_1002 rfl (lv_at hl 0 rfl) ?_
  refine lv_iload hx hb dL_law_1003 (lv_at hl 4 rfl) ?_
  refine lv_iconst (v := nI 1) hx hb dL_law_1005 (by decide) ?_
  refine r_iaddN hx hb dL_law_1006 ?_
  refine r_sld (j := 5 * k + 1) hx hb hX hbl hS (by omega) hL dL_law_1007 ?_
  refine lv_aload_n hx hb dL_law_1008 rfl (lv_at hl 0 rfl) ?_
  refine lv_iload hx hb dL_law_1009 (lv_at hl 4 rfl) ?_
  refine lv_iconst (v := nI 2) hx hb dL_law_1011 (by decide) ?_
  refine r_iaddN hx hb dL_law_1012 ?_
  refine r_sld (j := 5 * k + 2) hx hb hX hbl hS (by omega) hL dL_law_1013 ?_
  refine lv_aload_n hx hb dL_law_1014 rfl (lv_at hl 3 rfl) ?_
  have hT0 : TXA (fun _ => False) s H := hT.narrow (fun _ h9 => h9.elim)
  refine r_gS (As := [.ref (r 0), .int (xs (5 * k + 1)), .int (xs (5 * k + 2)), .ref o]) (rest := []) ⟨hx, hb, hml, hown, hts⟩ (hM1 _) hwc hw1 (vx_cwSW 4 hts gL_law_L_has rfl rfl rfl (by decide +kernel) ⟨Nat.le_of_ble_eq_true rfl, Nat.le_of_ble_eq_true rfl⟩) hK hT0 hP hD hS hA is hC hnd had rfl hl.1 rfl (Nat.le_of_ble_eq_true rfl) dL_law_1015 ⟨hcells, hslots⟩ (fun H1 locs hP hD hS hz1 hk1 => ?_)
  have hT := hT.kept hk1
  refine lv_istore (lv' := [(5, .int (nI kx)), (0, .ref b), (1, .ref (r 0)), (2, .ref (g 0)), (3, .ref o), (4, .int (nI (5 * k)))]) hx hb dL_law_1018 hl (by decide) rfl (fun ls hl => ?_)
  refine lv_aload_n hx hb dL_law_1020 rfl (lv_at hl 3 rfl) ?_
  refine lv_aload_n hx hb dL_law_1021 rfl (lv_at hl 1 rfl) ?_
  refine lv_iload hx hb dL_law_1022 (lv_at hl 5 rfl) ?_
  refine lv_iconst (v := nI 1) hx hb dL_law_1024 (by decide) ?_
  refine r_iaddN hx hb dL_law_1025 ?_
  refine r_sld (j := 5 * k + 1) hx hb hX hbl hS (by omega) hL dL_law_1026 ?_
  refine lv_aload_n hx hb dL_law_1027 rfl (lv_at hl 1 rfl) ?_
  refine lv_iload hx hb dL_law_1028 (lv_at hl 5 rfl) ?_
  refine lv_iconst (v := nI 2) hx hb dL_law_1030 (by decide) ?_
  refine r_iaddN hx hb dL_law_1031 ?_
  refine r_sld (j := 5 * k + 2) hx hb hX hbl hS (by omega) hL dL_law_1032 ?_
  refine r_gV (As := [.int (xs (5 * k + 1)), .int (xs (5 * k + 2))]) (rest := []) (Cs := [M0]) (C1 := [M1]) ⟨hx, hb, hml, hown, hts⟩ (hM2 _) (fl1 _) (fl1 _) (cwV 2 hts gL_law_X4_has rfl rfl rfl (by decide +kernel) ⟨by show f2 + 1 ≤ 11; omega, by show 8 + (3 + 11) + q2 ≤ 416; omega⟩) hK hP hD hS hA [9] (by simp only [List.map_cons, List.map_nil, h9]) rfl (by simp only [List.map_cons, List.map_nil, hadM]) 0 4 he0 rfl rfl hl.1 rfl (Nat.le_of_ble_eq_true rfl) dL_law_1033 ⟨hcells, hslots⟩ (fun H2 locs hP hD hS hz2 hk2 => ?_)
  have hT := hT.kept hk2
  refine lv_istore (lv' := [(6, .int (bI v2)), (5, .int (nI kx)), (0, .ref b), (1, .ref (r 0)), (2, .ref (g 0)), (3, .ref o), (4, .int (nI (5 * k)))]) hx hb dL_law_1036 hl (by decide) rfl (fun ls hl => ?_)
  refine lv_aload_n hx hb dL_law_1038 rfl (lv_at hl 4 rfl) ?_
  have h9M : (jnG (jnG Ls is C1) [9] [M1])[9]? = some M1 := by show ((jnG Ls is C1).set 9 M1)[9]? = some M1; rw [List.getElem?_set_self (List.getElem?_eq_some_iff.mp h9).1]
  refine r_gR (As := []) (rest := []) (Cs := [M1]) ⟨hx, hb, hml, hown, hts⟩ hth (fl1 _) (cwV 0 hts gL_law_X4_thrown rfl rfl rfl (by decide +kernel) ⟨Nat.le_of_ble_eq_true rfl, Nat.le_of_ble_eq_true rfl⟩) hK hP [9] (by simp only [List.map_cons, List.map_nil, h9M]) 0 4 he1 rfl rfl hl.1 rfl (Nat.le_of_ble_eq_true rfl) dL_law_1039 ⟨hcells, hslots⟩ ?_
  refine lv_iload hx hb dL_law_1042 (lv_at hl 1 rfl) ?_
  refine lv_icmp_eq (x := nI kx) (y := nI kx) (tgt := 1049) hx hb dL_law_1044 (by decide) (fun _ => ?_) (fun h => absurd rfl h)
  refine lv_iload hx hb dL_law_1049 (lv_at hl 1 rfl) ?_
  refine r_if_neN hx hb (x := kx) (by omega) (tgt := 1073) dL_law_1051 (by decide) (fun c0 => ?_) (fun c0 => ?_)
  · refine lv_goto (tgt := 1547) hx hb dL_law_1073 (by decide) ?_
    exact hnx _ _ hP hD hS hT ls (lv_sub hl [2, 3, 4, 5, 6] rfl)
  · refine lv_aload_n hx hb dL_law_1054 rfl (lv_at hl 5 rfl) ?_
    refine lv_iconst (v := nI 0) hx hb dL_law_1055 (by decide) ?_
    refine r_out hx hb hK hP h10 dL_law_1056 ?_
    refine lv_iload hx hb dL_law_1057 (lv_at hl 0 rfl) ?_
    refine r_if_eqB (x := v2) (tgt := 1066) hx hb dL_law_1059 (by decide) (fun c9 => ?_) (fun c9 => ?_)
    · subst c9
      refine lv_lconst (v := 0) hx hb dL_law_1066 (by decide) ?_
      refine r_lcmpE (hcmp c0) hx hb (tgt := 1073) (pc2 := 0) dL_law_1067 dL_law_1068 (by decide) ?_
      refine lv_goto (tgt := 1547) hx hb dL_law_1073 (by decide) ?_
      exact hnx _ _ hP hD hS hT ls (lv_sub hl [2, 3, 4, 5, 6] rfl)
    · subst c9
      refine lv_lconst (v := 1) hx hb dL_law_1062 (by decide) ?_
      refine lv_goto (tgt := 1067) hx hb dL_law_1063 (by decide) ?_
      refine r_lcmpE (hcmp c0) hx hb (tgt := 1073) (pc2 := 0) dL_law_1067 dL_law_1068 (by decide) ?_
      refine lv_goto (tgt := 1547) hx hb dL_law_1073 (by decide) ?_
      exact hnx _ _ hP hD hS hT ls (lv_sub hl [2, 3, 4, 5, 6] rfl)
set_option maxHeartbeats 8000000 in
set_option maxRecDepth 100000 in
theorem lc_isLeaf {p : Program} {l : Launch} {e : Env} {s : State} {m : MethodId} {below : List Frame} {meth : Method} {c : Code} {b L : Nat} {xs : Nat → Int32} (hL : L ≤ 2560) (C0 : lw_At p s m meth c b L xs) {D : va_G} {ct : Nat → ClassId} (hK : KK D ct s) {r g : Nat → Nat} {o k cells slots : Nat} {mc ms kx f2 q2 : Nat} (hk : 5 * k + 5 ≤ L) (hcells : cells + mc ≤ 601024) (hslots : slots + ms ≤ 7293034) {Ls Cs C1 : List va_W} {wc w1 M0 M1 : va_W} {v2 : Bool} {ov : Int64} (is : List Nat) {fs fs1 : List Value} (hM1 : ∀ sz, Met l yL_isLeaf wsL_isLeaf ({ frames := 9, cells := mc, slots := ms, locals := 300 } : Room) (wrPcT D ct [.ref (r 0), .int (xs (5 * k + 1)), .int (xs (5 * k + 2)), .ref o] wc sz) (wqI D (nI kx) w1 (va_A wc sz)) mc ms (va_A wc sz)) (hwc : wc = fl Cs) (hw1 : w1 = fl C1) (hC : is.map (fun i => Ls[i]?) = Cs.map some) (hnd : va_nd is = true) (had : C1.map (·.map Prod.fst) = Cs.map (·.map Prod.fst)) (hM2 : ∀ sz, Met l yX4_isLeaf wsX4_isLeaf ({ frames := f2, cells := 0, slots := 0, locals := q2 } : Room) (wrPc D ct [.ref (g 0), .int (xs (5 * k + 1)), .int (xs (5 * k + 2))] M0 sz) (wqI D (bI v2) M1 (va_A M0 sz)) 0 0 (va_A M0 sz)) (hf2 : f2 ≤ 10) (hq2 : q2 ≤ 370) (h9 : (jnG Ls is C1)[9]? = some M0) (hadM : M1.map Prod.fst = M0.map Prod.fst) (he0 : M0[0]? = some (g 0, .inr (4, fs))) (hth : Met l yX4_thrown wsX4_thrown ({ frames := 0, cells := 0, slots := 0, locals := 0 } : Room) (roPc D ct [.ref (g 0)] M1) (rqI (nI kx)) 0 0 (fun _ => False)) (he1 : M1[0]? = some (g 0, .inr (4, fs1))) (h10 : (jnG (jnG Ls is C1) [9] [M1])[10]? = some (wO ct o ov)) (hcmp : kx = 0 → ov = (if v2 = true then 1 else 0)) (hkx : kx < 4) (hnx : LSa p l e s m below meth c b D r g o 1547 k (jnG (jnG Ls is C1) [9] [M1]) (cells + mc) (slots + ms)) : LSa p l e s m below meth c b D r g o 1076 k Ls (cells) (slots) := by
  obtain ⟨hx, hb, hr, hml, hown, hts, hX, hbl, hlocks, hgv⟩ := C0
  have hts := fun w h => hts w (wsL_law_in w h)
  have hown : s.vm.findClass RL = some m.cls := hown
  have hb : c.code = cL_law := hb
  intro H locs hP hD hS hT ls hl
  have hA : ∀ q : Nat, s.heap.size ≤ q → (fun q : Nat => s.heap.size ≤ q) q := fun _ h => h
  refine lv_aload_n hx hb dL_law_1076 rfl (lv_at hl 1 rfl) ?_
  refine lv_aload_n hx hb dL_law_1077 rfl (lv_at hl 0 rfl) ?_
  refine lv_iload hx hb dL_law_1078 (lv_at hl 4 rfl) ?_
  refine lv_iconst (v := nI 1) hx hb dL_law_1080 (by decide) ?_
  refine r_iaddN hx hb dL_law_1081 ?_
  refine r_sld (j := 5 * k + 1) hx hb hX hbl hS (by omega) hL dL_law_1082 ?_
  refine lv_aload_n hx hb dL_law_1083 rfl (lv_at hl 0 rfl) ?_
  refine lv_iload hx hb dL_law_1084 (lv_at hl 4 rfl) ?_
  refine lv_iconst (v := nI 2) hx hb dL_law_1086 (by decide) ?_
  refine r_iaddN hx hb dL_law_1087 ?_
  refine r_sld (j := 5 * k + 2) hx hb hX hbl hS (by omega) hL dL_law_1088 ?_
  refine lv_aload_n hx hb dL_law_1089 rfl (lv_at hl 3 rfl) ?_
  have hT0 : TXA (fun _ => False) s H := hT.narrow (fun _ h9 => h9.elim)
  refine r_gS (As := [.ref (r 0), .int (xs (5 * k + 1)), .int (xs (5 * k + 2)), .ref o]) (rest := []) ⟨hx, hb, hml, hown, hts⟩ (hM1 _) hwc hw1 (vx_cwSW 4 hts gL_law_L_isLeaf rfl rfl rfl (by decide +kernel) ⟨Nat.le_of_ble_eq_true rfl, Nat.le_of_ble_eq_true rfl⟩) hK hT0 hP hD hS hA is hC hnd had rfl hl.1 rfl (Nat.le_of_ble_eq_true rfl) dL_law_1090 ⟨hcells, hslots⟩ (fun H1 locs hP hD hS hz1 hk1 => ?_)
  have hT := hT.kept hk1
  refine lv_istore (lv' := [(5, .int (nI kx)), (0, .ref b), (1, .ref (r 0)), (2, .ref (g 0)), (3, .ref o), (4, .int (nI (5 * k)))]) hx hb dL_law_1093 hl (by decide) rfl (fun ls hl => ?_)
  refine lv_aload_n hx hb dL_law_1095 rfl (lv_at hl 3 rfl) ?_
  refine lv_aload_n hx hb dL_law_1096 rfl (lv_at hl 1 rfl) ?_
  refine lv_iload hx hb dL_law_1097 (lv_at hl 5 rfl) ?_
  refine lv_iconst (v := nI 1) hx hb dL_law_1099 (by decide) ?_
  refine r_iaddN hx hb dL_law_1100 ?_
  refine r_sld (j := 5 * k + 1) hx hb hX hbl hS (by omega) hL dL_law_1101 ?_
  refine lv_aload_n hx hb dL_law_1102 rfl (lv_at hl 1 rfl) ?_
  refine lv_iload hx hb dL_law_1103 (lv_at hl 5 rfl) ?_
  refine lv_iconst (v := nI 2) hx hb dL_law_1105 (by decide) ?_
  refine r_iaddN hx hb dL_law_1106 ?_
  refine r_sld (j := 5 * k + 2) hx hb hX hbl hS (by omega) hL dL_law_1107 ?_
  refine r_gV (As := [.int (xs (5 * k + 1)), .int (xs (5 * k + 2))]) (rest := []) (Cs := [M0]) (C1 := [M1]) ⟨hx, hb, hml, hown, hts⟩ (hM2 _) (fl1 _) (fl1 _) (cwV 2 hts gL_law_X4_isLeaf rfl rfl rfl (by decide +kernel) ⟨by show f2 + 1 ≤ 11; omega, by show 8 + (3 + 11) + q2 ≤ 416; omega⟩) hK hP hD hS hA [9] (by simp only [List.map_cons, List.map_nil, h9]) rfl (by simp only [List.map_cons, List.map_nil, hadM]) 0 4 he0 rfl rfl hl.1 rfl (Nat.le_of_ble_eq_true rfl) dL_law_1108 ⟨hcells, hslots⟩ (fun H2 locs hP hD hS hz2 hk2 => ?_)
  have hT := hT.kept hk2
  refine lv_istore (lv' := [(6, .int (bI v2)), (5, .int (nI kx)), (0, .ref b), (1, .ref (r 0)), (2, .ref (g 0)), (3, .ref o), (4, .int (nI (5 * k)))]) hx hb dL_law_1111 hl (by decide) rfl (fun ls hl => ?_)
  refine lv_aload_n hx hb dL_law_1113 rfl (lv_at hl 4 rfl) ?_
  have h9M : (jnG (jnG Ls is C1) [9] [M1])[9]? = some M1 := by show ((jnG Ls is C1).set 9 M1)[9]? = some M1; rw [List.getElem?_set_self (List.getElem?_eq_some_iff.mp h9).1]
  refine r_gR (As := []) (rest := []) (Cs := [M1]) ⟨hx, hb, hml, hown, hts⟩ hth (fl1 _) (cwV 0 hts gL_law_X4_thrown rfl rfl rfl (by decide +kernel) ⟨Nat.le_of_ble_eq_true rfl, Nat.le_of_ble_eq_true rfl⟩) hK hP [9] (by simp only [List.map_cons, List.map_nil, h9M]) 0 4 he1 rfl rfl hl.1 rfl (Nat.le_of_ble_eq_true rfl) dL_law_1114 ⟨hcells, hslots⟩ ?_
  refine lv_iload hx hb dL_law_1117 (lv_at hl 1 rfl) ?_
  refine lv_icmp_eq (x := nI kx) (y := nI kx) (tgt := 1124) hx hb dL_law_1119 (by decide) (fun _ => ?_) (fun h => absurd rfl h)
  refine lv_iload hx hb dL_law_1124 (lv_at hl 1 rfl) ?_
  refine r_if_neN hx hb (x := kx) (by omega) (tgt := 1148) dL_law_1126 (by decide) (fun c0 => ?_) (fun c0 => ?_)
  · refine lv_goto (tgt := 1547) hx hb dL_law_1148 (by decide) ?_
    exact hnx _ _ hP hD hS hT ls (lv_sub hl [2, 3, 4, 5, 6] rfl)
  · refine lv_aload_n hx hb dL_law_1129 rfl (lv_at hl 5 rfl) ?_
    refine lv_iconst (v := nI 0) hx hb dL_law_1130 (by decide) ?_
    refine r_out hx hb hK hP h10 dL_law_1131 ?_
    refine lv_iload hx hb dL_law_1132 (lv_at hl 0 rfl) ?_
    refine r_if_eqB (x := v2) (tgt := 1141) hx hb dL_law_1134 (by decide) (fun c9 => ?_) (fun c9 => ?_)
    · subst c9
      refine lv_lconst (v := 0) hx hb dL_law_1141 (by decide) ?_
      refine r_lcmpE (hcmp c0) hx hb (tgt := 1148) (pc2 := 0) dL_law_1142 dL_law_1143 (by decide) ?_
      refine lv_goto (tgt := 1547) hx hb dL_law_1148 (by decide) ?_
      exact hnx _ _ hP hD hS hT ls (lv_sub hl [2, 3, 4, 5, 6] rfl)
    · subst c9
      refine lv_lconst (v := 1) hx hb dL_law_1137 (by decide) ?_
      refine lv_goto (tgt := 1142) hx hb dL_law_1138 (by decide) ?_
      refine r_lcmpE (hcmp c0) hx hb (tgt := 1148) (pc2 := 0) dL_law_1142 dL_law_1143 (by decide) ?_
      refine lv_goto (tgt := 1547) hx hb dL_law_1148 (by decide) ?_
      exact hnx _ _ hP hD hS hT ls (lv_sub hl [2, 3, 4, 5, 6] rfl)
set_option maxHeartbeats 8000000 in
set_option maxRecDepth 100000 in
theorem lc_size {p : Program} {l : Launch} {e : Env} {s : State} {m : MethodId} {below : List Frame} {meth : Method} {c : Code} {b L : Nat} {xs : Nat → Int32} (hL : L ≤ 2560) (C0 : lw_At p s m meth c b L xs) {D : va_G} {ct : Nat → ClassId} (hK : KK D ct s) {r g : Nat → Nat} {o k cells slots : Nat} {mc ms kx f2 q2 : Nat} (hk : 5 * k + 5 ≤ L) (hcells : cells + mc ≤ 601024) (hslots : slots + ms ≤ 7293034) {Ls Cs C1 : List va_W} {wc w1 M0 M1 : va_W} {v2 : Int32} {ov : Int64} (is : List Nat) {fs fs1 : List Value} (hM1 : ∀ sz, Met l yL_size wsL_size ({ frames := 9, cells := mc, slots := ms, locals := 300 } : Room) (wrPcT D ct [.ref (r 0), .int (xs (5 * k + 1)), .ref o] wc sz) (wqI D (nI kx) w1 (va_A wc sz)) mc ms (va_A wc sz)) (hwc : wc = fl Cs) (hw1 : w1 = fl C1) (hC : is.map (fun i => Ls[i]?) = Cs.map some) (hnd : va_nd is = true) (had : C1.map (·.map Prod.fst) = Cs.map (·.map Prod.fst)) (hM2 : ∀ sz, Met l yX4_size wsX4_size ({ frames := f2, cells := 0, slots := 0, locals := q2 } : Room) (wrPc D ct [.ref (g 0), .int (xs (5 * k + 1))] M0 sz) (wqI D v2 M1 (va_A M0 sz)) 0 0 (va_A M0 sz)) (hf2 : f2 ≤ 10) (hq2 : q2 ≤ 370) (h9 : (jnG Ls is C1)[9]? = some M0) (hadM : M1.map Prod.fst = M0.map Prod.fst) (he0 : M0[0]? = some (g 0, .inr (4, fs))) (hth : Met l yX4_thrown wsX4_thrown ({ frames := 0, cells := 0, slots := 0, locals := 0 } : Room) (roPc D ct [.ref (g 0)] M1) (rqI (nI kx)) 0 0 (fun _ => False)) (he1 : M1[0]? = some (g 0, .inr (4, fs1))) (h10 : (jnG (jnG Ls is C1) [9] [M1])[10]? = some (wO ct o ov)) (hcmp : kx = 0 → ov = v2.toInt64) (hkx : kx < 4) (hnx : LSa p l e s m below meth c b D r g o 1547 k (jnG (jnG Ls is C1) [9] [M1]) (cells + mc) (slots + ms)) : LSa p l e s m below meth c b D r g o 1151 k Ls (cells) (slots) := by
  obtain ⟨hx, hb, hr, hml, hown, hts, hX, hbl, hlocks, hgv⟩ := C0
  have hts := fun w h => hts w (wsL_law_in w h)
  have hown : s.vm.findClass RL = some m.cls := hown
  have hb : c.code = cL_law := hb
  intro H locs hP hD hS hT ls hl
  have hA : ∀ q : Nat, s.heap.size ≤ q → (fun q : Nat => s.heap.size ≤ q) q := fun _ h => h
  refine lv_aload_n hx hb dL_law_1151 rfl (lv_at hl 1 rfl) ?_
  refine lv_aload_n hx hb dL_law_1152 rfl (lv_at hl 0 rfl) ?_
  refine lv_iload hx hb dL_law_1153 (lv_at hl 4 rfl) ?_
  refine lv_iconst (v := nI 1) hx hb dL_law_1155 (by decide) ?_
  refine r_iaddN hx hb dL_law_1156 ?_
  refine r_sld (j := 5 * k + 1) hx hb hX hbl hS (by omega) hL dL_law_1157 ?_
  refine lv_aload_n hx hb dL_law_1158 rfl (lv_at hl 3 rfl) ?_
  have hT0 : TXA (fun _ => False) s H := hT.narrow (fun _ h9 => h9.elim)
  refine r_gS (As := [.ref (r 0), .int (xs (5 * k + 1)), .ref o]) (rest := []) ⟨hx, hb, hml, hown, hts⟩ (hM1 _) hwc hw1 (vx_cwSW 3 hts gL_law_L_size rfl rfl rfl (by decide +kernel) ⟨Nat.le_of_ble_eq_true rfl, Nat.le_of_ble_eq_true rfl⟩) hK hT0 hP hD hS hA is hC hnd had rfl hl.1 rfl (Nat.le_of_ble_eq_true rfl) dL_law_1159 ⟨hcells, hslots⟩ (fun H1 locs hP hD hS hz1 hk1 => ?_)
  have hT := hT.kept hk1
  refine lv_istore (lv' := [(5, .int (nI kx)), (0, .ref b), (1, .ref (r 0)), (2, .ref (g 0)), (3, .ref o), (4, .int (nI (5 * k)))]) hx hb dL_law_1162 hl (by decide) rfl (fun ls hl => ?_)
  refine lv_aload_n hx hb dL_law_1164 rfl (lv_at hl 3 rfl) ?_
  refine lv_aload_n hx hb dL_law_1165 rfl (lv_at hl 1 rfl) ?_
  refine lv_iload hx hb dL_law_1166 (lv_at hl 5 rfl) ?_
  refine lv_iconst (v := nI 1) hx hb dL_law_1168 (by decide) ?_
  refine r_iaddN hx hb dL_law_1169 ?_
  refine r_sld (j := 5 * k + 1) hx hb hX hbl hS (by omega) hL dL_law_1170 ?_
  refine r_gV (As := [.int (xs (5 * k + 1))]) (rest := []) (Cs := [M0]) (C1 := [M1]) ⟨hx, hb, hml, hown, hts⟩ (hM2 _) (fl1 _) (fl1 _) (cwV 1 hts gL_law_X4_size rfl rfl rfl (by decide +kernel) ⟨by show f2 + 1 ≤ 11; omega, by show 8 + (5 + 11) + q2 ≤ 416; omega⟩) hK hP hD hS hA [9] (by simp only [List.map_cons, List.map_nil, h9]) rfl (by simp only [List.map_cons, List.map_nil, hadM]) 0 4 he0 rfl rfl hl.1 rfl (Nat.le_of_ble_eq_true rfl) dL_law_1171 ⟨hcells, hslots⟩ (fun H2 locs hP hD hS hz2 hk2 => ?_)
  have hT := hT.kept hk2
  refine lv_istore (lv' := [(6, .int (v2)), (5, .int (nI kx)), (0, .ref b), (1, .ref (r 0)), (2, .ref (g 0)), (3, .ref o), (4, .int (nI (5 * k)))]) hx hb dL_law_1174 hl (by decide) rfl (fun ls hl => ?_)
  refine lv_aload_n hx hb dL_law_1176 rfl (lv_at hl 4 rfl) ?_
  have h9M : (jnG (jnG Ls is C1) [9] [M1])[9]? = some M1 := by show ((jnG Ls is C1).set 9 M1)[9]? = some M1; rw [List.getElem?_set_self (List.getElem?_eq_some_iff.mp h9).1]
  refine r_gR (As := []) (rest := []) (Cs := [M1]) ⟨hx, hb, hml, hown, hts⟩ hth (fl1 _) (cwV 0 hts gL_law_X4_thrown rfl rfl rfl (by decide +kernel) ⟨Nat.le_of_ble_eq_true rfl, Nat.le_of_ble_eq_true rfl⟩) hK hP [9] (by simp only [List.map_cons, List.map_nil, h9M]) 0 4 he1 rfl rfl hl.1 rfl (Nat.le_of_ble_eq_true rfl) dL_law_1177 ⟨hcells, hslots⟩ ?_
  refine lv_iload hx hb dL_law_1180 (lv_at hl 1 rfl) ?_
  refine lv_icmp_eq (x := nI kx) (y := nI kx) (tgt := 1187) hx hb dL_law_1182 (by decide) (fun _ => ?_) (fun h => absurd rfl h)
  refine lv_iload hx hb dL_law_1187 (lv_at hl 1 rfl) ?_
  refine r_if_neN hx hb (x := kx) (by omega) (tgt := 1204) dL_law_1189 (by decide) (fun c0 => ?_) (fun c0 => ?_)
  · refine lv_goto (tgt := 1547) hx hb dL_law_1204 (by decide) ?_
    exact hnx _ _ hP hD hS hT ls (lv_sub hl [2, 3, 4, 5, 6] rfl)
  · refine lv_aload_n hx hb dL_law_1192 rfl (lv_at hl 5 rfl) ?_
    refine lv_iconst (v := nI 0) hx hb dL_law_1193 (by decide) ?_
    refine r_out hx hb hK hP h10 dL_law_1194 ?_
    refine lv_iload hx hb dL_law_1195 (lv_at hl 0 rfl) ?_
    refine lv_i2l (v := v2.toInt64) hx hb dL_law_1197 rfl ?_
    refine r_lcmpE (hcmp c0) hx hb (tgt := 1204) (pc2 := 0) dL_law_1198 dL_law_1199 (by decide) ?_
    refine lv_goto (tgt := 1547) hx hb dL_law_1204 (by decide) ?_
    exact hnx _ _ hP hD hS hT ls (lv_sub hl [2, 3, 4, 5, 6] rfl)
set_option maxHeartbeats 8000000 in
set_option maxRecDepth 100000 in
theorem lc_winner {p : Program} {l : Launch} {e : Env} {s : State} {m : MethodId} {below : List Frame} {meth : Method} {c : Code} {b L : Nat} {xs : Nat → Int32} (hL : L ≤ 2560) (C0 : lw_At p s m meth c b L xs) {D : va_G} {ct : Nat → ClassId} (hK : KK D ct s) {r g : Nat → Nat} {o k cells slots : Nat} {mc ms kx f2 q2 : Nat} (hk : 5 * k + 5 ≤ L) (hcells : cells + mc ≤ 601024) (hslots : slots + ms ≤ 7293034) {Ls Cs C1 : List va_W} {wc w1 M0 M1 : va_W} {v2 : Int32} {ov : Int64} (is : List Nat) {fs fs1 : List Value} (hM1 : ∀ sz, Met l yL_winner wsL_winner ({ frames := 9, cells := mc, slots := ms, locals := 300 } : Room) (wrPcT D ct [.ref (r 0), .int (xs (5 * k + 1)), .int (xs (5 * k + 2)), .ref o] wc sz) (wqI D (nI kx) w1 (va_A wc sz)) mc ms (va_A wc sz)) (hwc : wc = fl Cs) (hw1 : w1 = fl C1) (hC : is.map (fun i => Ls[i]?) = Cs.map some) (hnd : va_nd is = true) (had : C1.map (·.map Prod.fst) = Cs.map (·.map Prod.fst)) (hM2 : ∀ sz, Met l yX4_winner wsX4_winner ({ frames := f2, cells := 0, slots := 0, locals := q2 } : Room) (wrPc D ct [.ref (g 0), .int (xs (5 * k + 1)), .int (xs (5 * k + 2))] M0 sz) (wqI D v2 M1 (va_A M0 sz)) 0 0 (va_A M0 sz)) (hf2 : f2 ≤ 10) (hq2 : q2 ≤ 370) (h9 : (jnG Ls is C1)[9]? = some M0) (hadM : M1.map Prod.fst = M0.map Prod.fst) (he0 : M0[0]? = some (g 0, .inr (4, fs))) (hth : Met l yX4_thrown wsX4_thrown ({ frames := 0, cells := 0, slots := 0, locals := 0 } : Room) (roPc D ct [.ref (g 0)] M1) (rqI (nI kx)) 0 0 (fun _ => False)) (he1 : M1[0]? = some (g 0, .inr (4, fs1))) (h10 : (jnG (jnG Ls is C1) [9] [M1])[10]? = some (wO ct o ov)) (hcmp : kx = 0 → ov = v2.toInt64) (hkx : kx < 4) (hnx : LSa p l e s m below meth c b D r g o 1547 k (jnG (jnG Ls is C1) [9] [M1]) (cells + mc) (slots + ms)) : LSa p l e s m below meth c b D r g o 1207 k Ls (cells) (slots) := by
  obtain ⟨hx, hb, hr, hml, hown, hts, hX, hbl, hlocks, hgv⟩ := C0
  have hts := fun w h => hts w (wsL_law_in w h)
  have hown : s.vm.findClass RL = some m.cls := hown
  have hb : c.code = cL_law := hb
  intro H locs hP hD hS hT ls hl
  have hA : ∀ q : Nat, s.heap.size ≤ q → (fun q : Nat => s.heap.size ≤ q) q := fun _ h => h
  refine lv_aload_n hx hb dL_law_1207 rfl (lv_at hl 1 rfl) ?_
  refine lv_aload_n hx hb dL_law_1208 rfl (lv_at hl 0 rfl) ?_
  refine lv_iload hx hb dL_law_1209 (lv_at hl 4 rfl) ?_
  refine lv_iconst (v := nI 1) hx hb dL_law_1211 (by decide) ?_
  refine r_iaddN hx hb dL_law_1212 ?_
  refine r_sld (j := 5 * k + 1) hx hb hX hbl hS (by omega) hL dL_law_1213 ?_
  refine lv_aload_n hx hb dL_law_1214 rfl (lv_at hl 0 rfl) ?_
  refine lv_iload hx hb dL_law_1215 (lv_at hl 4 rfl) ?_
  refine lv_iconst (v := nI 2) hx hb dL_law_1217 (by decide) ?_
  refine r_iaddN hx hb dL_law_1218 ?_
  refine r_sld (j := 5 * k + 2) hx hb hX hbl hS (by omega) hL dL_law_1219 ?_
  refine lv_aload_n hx hb dL_law_1220 rfl (lv_at hl 3 rfl) ?_
  have hT0 : TXA (fun _ => False) s H := hT.narrow (fun _ h9 => h9.elim)
  refine r_gS (As := [.ref (r 0), .int (xs (5 * k + 1)), .int (xs (5 * k + 2)), .ref o]) (rest := []) ⟨hx, hb, hml, hown, hts⟩ (hM1 _) hwc hw1 (vx_cwSW 4 hts gL_law_L_winner rfl rfl rfl (by decide +kernel) ⟨Nat.le_of_ble_eq_true rfl, Nat.le_of_ble_eq_true rfl⟩) hK hT0 hP hD hS hA is hC hnd had rfl hl.1 rfl (Nat.le_of_ble_eq_true rfl) dL_law_1221 ⟨hcells, hslots⟩ (fun H1 locs hP hD hS hz1 hk1 => ?_)
  have hT := hT.kept hk1
  refine lv_istore (lv' := [(5, .int (nI kx)), (0, .ref b), (1, .ref (r 0)), (2, .ref (g 0)), (3, .ref o), (4, .int (nI (5 * k)))]) hx hb dL_law_1224 hl (by decide) rfl (fun ls hl => ?_)
  refine lv_aload_n hx hb dL_law_1226 rfl (lv_at hl 3 rfl) ?_
  refine lv_aload_n hx hb dL_law_1227 rfl (lv_at hl 1 rfl) ?_
  refine lv_iload hx hb dL_law_1228 (lv_at hl 5 rfl) ?_
  refine lv_iconst (v := nI 1) hx hb dL_law_1230 (by decide) ?_
  refine r_iaddN hx hb dL_law_1231 ?_
  refine r_sld (j := 5 * k + 1) hx hb hX hbl hS (by omega) hL dL_law_1232 ?_
  refine lv_aload_n hx hb dL_law_1233 rfl (lv_at hl 1 rfl) ?_
  refine lv_iload hx hb dL_law_1234 (lv_at hl 5 rfl) ?_
  refine lv_iconst (v := nI 2) hx hb dL_law_1236 (by decide) ?_
  refine r_iaddN hx hb dL_law_1237 ?_
  refine r_sld (j := 5 * k + 2) hx hb hX hbl hS (by omega) hL dL_law_1238 ?_
  refine r_gV (As := [.int (xs (5 * k + 1)), .int (xs (5 * k + 2))]) (rest := []) (Cs := [M0]) (C1 := [M1]) ⟨hx, hb, hml, hown, hts⟩ (hM2 _) (fl1 _) (fl1 _) (cwV 2 hts gL_law_X4_winner rfl rfl rfl (by decide +kernel) ⟨by show f2 + 1 ≤ 11; omega, by show 8 + (3 + 11) + q2 ≤ 416; omega⟩) hK hP hD hS hA [9] (by simp only [List.map_cons, List.map_nil, h9]) rfl (by simp only [List.map_cons, List.map_nil, hadM]) 0 4 he0 rfl rfl hl.1 rfl (Nat.le_of_ble_eq_true rfl) dL_law_1239 ⟨hcells, hslots⟩ (fun H2 locs hP hD hS hz2 hk2 => ?_)
  have hT := hT.kept hk2
  refine lv_istore (lv' := [(6, .int (v2)), (5, .int (nI kx)), (0, .ref b), (1, .ref (r 0)), (2, .ref (g 0)), (3, .ref o), (4, .int (nI (5 * k)))]) hx hb dL_law_1242 hl (by decide) rfl (fun ls hl => ?_)
  refine lv_aload_n hx hb dL_law_1244 rfl (lv_at hl 4 rfl) ?_
  have h9M : (jnG (jnG Ls is C1) [9] [M1])[9]? = some M1 := by show ((jnG Ls is C1).set 9 M1)[9]? = some M1; rw [List.getElem?_set_self (List.getElem?_eq_some_iff.mp h9).1]
  refine r_gR (As := []) (rest := []) (Cs := [M1]) ⟨hx, hb, hml, hown, hts⟩ hth (fl1 _) (cwV 0 hts gL_law_X4_thrown rfl rfl rfl (by decide +kernel) ⟨Nat.le_of_ble_eq_true rfl, Nat.le_of_ble_eq_true rfl⟩) hK hP [9] (by simp only [List.map_cons, List.map_nil, h9M]) 0 4 he1 rfl rfl hl.1 rfl (Nat.le_of_ble_eq_true rfl) dL_law_1245 ⟨hcells, hslots⟩ ?_
  refine lv_iload hx hb dL_law_1248 (lv_at hl 1 rfl) ?_
  refine lv_icmp_eq (x := nI kx) (y := nI kx) (tgt := 1255) hx hb dL_law_1250 (by decide) (fun _ => ?_) (fun h => absurd rfl h)
  refine lv_iload hx hb dL_law_1255 (lv_at hl 1 rfl) ?_
  refine r_if_neN hx hb (x := kx) (by omega) (tgt := 1272) dL_law_1257 (by decide) (fun c0 => ?_) (fun c0 => ?_)
  · refine lv_goto (tgt := 1547) hx hb dL_law_1272 (by decide) ?_
    exact hnx _ _ hP hD hS hT ls (lv_sub hl [2, 3, 4, 5, 6] rfl)
  · refine lv_aload_n hx hb dL_law_1260 rfl (lv_at hl 5 rfl) ?_
    refine lv_iconst (v := nI 0) hx hb dL_law_1261 (by decide) ?_
    refine r_out hx hb hK hP h10 dL_law_1262 ?_
    refine lv_iload hx hb dL_law_1263 (lv_at hl 0 rfl) ?_
    refine lv_i2l (v := v2.toInt64) hx hb dL_law_1265 rfl ?_
    refine r_lcmpE (hcmp c0) hx hb (tgt := 1272) (pc2 := 0) dL_law_1266 dL_law_1267 (by decide) ?_
    refine lv_goto (tgt := 1547) hx hb dL_law_1272 (by decide) ?_
    exact hnx _ _ hP hD hS hT ls (lv_sub hl [2, 3, 4, 5, 6] rfl)
set_option maxHeartbeats 8000000 in
set_option maxRecDepth 100000 in
theorem lc_winnerOfAll {p : Program} {l : Launch} {e : Env} {s : State} {m : MethodId} {below : List Frame} {meth : Method} {c : Code} {b L : Nat} {xs : Nat → Int32} (hL : L ≤ 2560) (C0 : lw_At p s m meth c b L xs) {D : va_G} {ct : Nat → ClassId} (hK : KK D ct s) {r g : Nat → Nat} {o k cells slots : Nat} {mc ms kx f2 q2 : Nat} (hk : 5 * k + 5 ≤ L) (hcells : cells + mc ≤ 601024) (hslots : slots + ms ≤ 7293034) {Ls Cs C1 : List va_W} {wc w1 M0 M1 : va_W} {v2 : Int32} {ov : Int64} (is : List Nat) {fs fs1 : List Value} (hM1 : ∀ sz, Met l yL_winnerOfAll wsL_winnerOfAll ({ frames := 9, cells := mc, slots := ms, locals := 300 } : Room) (wrPcT D ct [.ref (r 0), .int (xs (5 * k + 1)), .ref o] wc sz) (wqI D (nI kx) w1 (va_A wc sz)) mc ms (va_A wc sz)) (hwc : wc = fl Cs) (hw1 : w1 = fl C1) (hC : is.map (fun i => Ls[i]?) = Cs.map some) (hnd : va_nd is = true) (had : C1.map (·.map Prod.fst) = Cs.map (·.map Prod.fst)) (hM2 : ∀ sz, Met l yX4_winnerOfAll wsX4_winnerOfAll ({ frames := f2, cells := 0, slots := 0, locals := q2 } : Room) (wrPc D ct [.ref (g 0), .int (xs (5 * k + 1))] M0 sz) (wqI D v2 M1 (va_A M0 sz)) 0 0 (va_A M0 sz)) (hf2 : f2 ≤ 10) (hq2 : q2 ≤ 370) (h9 : (jnG Ls is C1)[9]? = some M0) (hadM : M1.map Prod.fst = M0.map Prod.fst) (he0 : M0[0]? = some (g 0, .inr (4, fs))) (hth : Met l yX4_thrown wsX4_thrown ({ frames := 0, cells := 0, slots := 0, locals := 0 } : Room) (roPc D ct [.ref (g 0)] M1) (rqI (nI kx)) 0 0 (fun _ => False)) (he1 : M1[0]? = some (g 0, .inr (4, fs1))) (h10 : (jnG (jnG Ls is C1) [9] [M1])[10]? = some (wO ct o ov)) (hcmp : kx = 0 → ov = v2.toInt64) (hkx : kx < 4) (hnx : LSa p l e s m below meth c b D r g o 1547 k (jnG (jnG Ls is C1) [9] [M1]) (cells + mc) (slots + ms)) : LSa p l e s m below meth c b D r g o 1275 k Ls (cells) (slots) := by
  obtain ⟨hx, hb, hr, hml, hown, hts, hX, hbl, hlocks, hgv⟩ := C0
  have hts := fun w h => hts w (wsL_law_in w h)
  have hown : s.vm.findClass RL = some m.cls := hown
  have hb : c.code = cL_law := hb
  intro H locs hP hD hS hT ls hl
  have hA : ∀ q : Nat, s.heap.size ≤ q → (fun q : Nat => s.heap.size ≤ q) q := fun _ h => h
  refine lv_aload_n hx hb dL_law_1275 rfl (lv_at hl 1 rfl) ?_
  refine lv_aload_n hx hb dL_law_1276 rfl (lv_at hl 0 rfl) ?_
  refine lv_iload hx hb dL_law_1277 (lv_at hl 4 rfl) ?_
  refine lv_iconst (v := nI 1) hx hb dL_law_1279 (by decide) ?_
  refine r_iaddN hx hb dL_law_1280 ?_
  refine r_sld (j := 5 * k + 1) hx hb hX hbl hS (by omega) hL dL_law_1281 ?_
  refine lv_aload_n hx hb dL_law_1282 rfl (lv_at hl 3 rfl) ?_
  have hT0 : TXA (fun _ => False) s H := hT.narrow (fun _ h9 => h9.elim)
  refine r_gS (As := [.ref (r 0), .int (xs (5 * k + 1)), .ref o]) (rest := []) ⟨hx, hb, hml, hown, hts⟩ (hM1 _) hwc hw1 (vx_cwSW 3 hts gL_law_L_winnerOfAll rfl rfl rfl (by decide +kernel) ⟨Nat.le_of_ble_eq_true rfl, Nat.le_of_ble_eq_true rfl⟩) hK hT0 hP hD hS hA is hC hnd had rfl hl.1 rfl (Nat.le_of_ble_eq_true rfl) dL_law_1283 ⟨hcells, hslots⟩ (fun H1 locs hP hD hS hz1 hk1 => ?_)
  have hT := hT.kept hk1
  refine lv_istore (lv' := [(5, .int (nI kx)), (0, .ref b), (1, .ref (r 0)), (2, .ref (g 0)), (3, .ref o), (4, .int (nI (5 * k)))]) hx hb dL_law_1286 hl (by decide) rfl (fun ls hl => ?_)
  refine lv_aload_n hx hb dL_law_1288 rfl (lv_at hl 3 rfl) ?_
  refine lv_aload_n hx hb dL_law_1289 rfl (lv_at hl 1 rfl) ?_
  refine lv_iload hx hb dL_law_1290 (lv_at hl 5 rfl) ?_
  refine lv_iconst (v := nI 1) hx hb dL_law_1292 (by decide) ?_
  refine r_iaddN hx hb dL_law_1293 ?_
  refine r_sld (j := 5 * k + 1) hx hb hX hbl hS (by omega) hL dL_law_1294 ?_
  refine r_gV (As := [.int (xs (5 * k + 1))]) (rest := []) (Cs := [M0]) (C1 := [M1]) ⟨hx, hb, hml, hown, hts⟩ (hM2 _) (fl1 _) (fl1 _) (cwV 1 hts gL_law_X4_winnerOfAll rfl rfl rfl (by decide +kernel) ⟨by show f2 + 1 ≤ 11; omega, by show 8 + (6 + 11) + q2 ≤ 416; omega⟩) hK hP hD hS hA [9] (by simp only [List.map_cons, List.map_nil, h9]) rfl (by simp only [List.map_cons, List.map_nil, hadM]) 0 4 he0 rfl rfl hl.1 rfl (Nat.le_of_ble_eq_true rfl) dL_law_1295 ⟨hcells, hslots⟩ (fun H2 locs hP hD hS hz2 hk2 => ?_)
  have hT := hT.kept hk2
  refine lv_istore (lv' := [(6, .int (v2)), (5, .int (nI kx)), (0, .ref b), (1, .ref (r 0)), (2, .ref (g 0)), (3, .ref o), (4, .int (nI (5 * k)))]) hx hb dL_law_1298 hl (by decide) rfl (fun ls hl => ?_)
  refine lv_aload_n hx hb dL_law_1300 rfl (lv_at hl 4 rfl) ?_
  have h9M : (jnG (jnG Ls is C1) [9] [M1])[9]? = some M1 := by show ((jnG Ls is C1).set 9 M1)[9]? = some M1; rw [List.getElem?_set_self (List.getElem?_eq_some_iff.mp h9).1]
  refine r_gR (As := []) (rest := []) (Cs := [M1]) ⟨hx, hb, hml, hown, hts⟩ hth (fl1 _) (cwV 0 hts gL_law_X4_thrown rfl rfl rfl (by decide +kernel) ⟨Nat.le_of_ble_eq_true rfl, Nat.le_of_ble_eq_true rfl⟩) hK hP [9] (by simp only [List.map_cons, List.map_nil, h9M]) 0 4 he1 rfl rfl hl.1 rfl (Nat.le_of_ble_eq_true rfl) dL_law_1301 ⟨hcells, hslots⟩ ?_
  refine lv_iload hx hb dL_law_1304 (lv_at hl 1 rfl) ?_
  refine lv_icmp_eq (x := nI kx) (y := nI kx) (tgt := 1311) hx hb dL_law_1306 (by decide) (fun _ => ?_) (fun h => absurd rfl h)
  refine lv_iload hx hb dL_law_1311 (lv_at hl 1 rfl) ?_
  refine r_if_neN hx hb (x := kx) (by omega) (tgt := 1328) dL_law_1313 (by decide) (fun c0 => ?_) (fun c0 => ?_)
  · refine lv_goto (tgt := 1547) hx hb dL_law_1328 (by decide) ?_
    exact hnx _ _ hP hD hS hT ls (lv_sub hl [2, 3, 4, 5, 6] rfl)
  · refine lv_aload_n hx hb dL_law_1316 rfl (lv_at hl 5 rfl) ?_
    refine lv_iconst (v := nI 0) hx hb dL_law_1317 (by decide) ?_
    refine r_out hx hb hK hP h10 dL_law_1318 ?_
    refine lv_iload hx hb dL_law_1319 (lv_at hl 0 rfl) ?_
    refine lv_i2l (v := v2.toInt64) hx hb dL_law_1321 rfl ?_
    refine r_lcmpE (hcmp c0) hx hb (tgt := 1328) (pc2 := 0) dL_law_1322 dL_law_1323 (by decide) ?_
    refine lv_goto (tgt := 1547) hx hb dL_law_1328 (by decide) ?_
    exact hnx _ _ hP hD hS hT ls (lv_sub hl [2, 3, 4, 5, 6] rfl)
set_option maxHeartbeats 8000000 in
set_option maxRecDepth 100000 in
theorem lc_conflicts {p : Program} {l : Launch} {e : Env} {s : State} {m : MethodId} {below : List Frame} {meth : Method} {c : Code} {b L : Nat} {xs : Nat → Int32} (hL : L ≤ 2560) (C0 : lw_At p s m meth c b L xs) {D : va_G} {ct : Nat → ClassId} (hK : KK D ct s) {r g : Nat → Nat} {o k cells slots : Nat} {mc ms kx f2 q2 : Nat} (hk : 5 * k + 5 ≤ L) (hcells : cells + mc ≤ 601024) (hslots : slots + ms ≤ 7293034) {Ls Cs C1 : List va_W} {wc w1 M0 M1 : va_W} {v2 : Int32} {ov : Int64} (is : List Nat) {fs fs1 : List Value} (hM1 : ∀ sz, Met l yL_conflicts wsL_conflicts ({ frames := 9, cells := mc, slots := ms, locals := 300 } : Room) (wrPcT D ct [.ref (r 0), .int (xs (5 * k + 1)), .int (xs (5 * k + 2)), .ref o] wc sz) (wqI D (nI kx) w1 (va_A wc sz)) mc ms (va_A wc sz)) (hwc : wc = fl Cs) (hw1 : w1 = fl C1) (hC : is.map (fun i => Ls[i]?) = Cs.map some) (hnd : va_nd is = true) (had : C1.map (·.map Prod.fst) = Cs.map (·.map Prod.fst)) (hM2 : ∀ sz, Met l yX4_conflicts wsX4_conflicts ({ frames := f2, cells := 0, slots := 0, locals := q2 } : Room) (wrPc D ct [.ref (g 0), .int (xs (5 * k + 1)), .int (xs (5 * k + 2))] M0 sz) (wqI D v2 M1 (va_A M0 sz)) 0 0 (va_A M0 sz)) (hf2 : f2 ≤ 10) (hq2 : q2 ≤ 370) (h9 : (jnG Ls is C1)[9]? = some M0) (hadM : M1.map Prod.fst = M0.map Prod.fst) (he0 : M0[0]? = some (g 0, .inr (4, fs))) (hth : Met l yX4_thrown wsX4_thrown ({ frames := 0, cells := 0, slots := 0, locals := 0 } : Room) (roPc D ct [.ref (g 0)] M1) (rqI (nI kx)) 0 0 (fun _ => False)) (he1 : M1[0]? = some (g 0, .inr (4, fs1))) (h10 : (jnG (jnG Ls is C1) [9] [M1])[10]? = some (wO ct o ov)) (hcmp : kx = 0 → ov = v2.toInt64) (hkx : kx < 4) (hnx : LSa p l e s m below meth c b D r g o 1547 k (jnG (jnG Ls is C1) [9] [M1]) (cells + mc) (slots + ms)) : LSa p l e s m below meth c b D r g o 1331 k Ls (cells) (slots) := by
  obtain ⟨hx, hb, hr, hml, hown, hts, hX, hbl, hlocks, hgv⟩ := C0
  have hts := fun w h => hts w (wsL_law_in w h)
  have hown : s.vm.findClass RL = some m.cls := hown
  have hb : c.code = cL_law := hb
  intro H locs hP hD hS hT ls hl
  have hA : ∀ q : Nat, s.heap.size ≤ q → (fun q : Nat => s.heap.size ≤ q) q := fun _ h => h
  refine lv_aload_n hx hb dL_law_1331 rfl (lv_at hl 1 rfl) ?_
  refine lv_aload_n hx hb dL_law_1332 rfl (lv_at hl 0 rfl) ?_
  refine lv_iload hx hb dL_law_1333 (lv_at hl 4 rfl) ?_
  refine lv_iconst (v := nI 1) hx hb dL_law_1335 (by decide) ?_
  refine r_iaddN hx hb dL_law_1336 ?_
  refine r_sld (j := 5 * k + 1) hx hb hX hbl hS (by omega) hL dL_law_1337 ?_
  refine lv_aload_n hx hb dL_law_1338 rfl (lv_at hl 0 rfl) ?_
  refine lv_iload hx hb dL_law_1339 (lv_at hl 4 rfl) ?_
  refine lv_iconst (v := nI 2) hx hb dL_law_1341 (by decide) ?_
  refine r_iaddN hx hb dL_law_1342 ?_
  refine r_sld (j := 5 * k + 2) hx hb hX hbl hS (by omega) hL dL_law_1343 ?_
  refine lv_aload_n hx hb dL_law_1344 rfl (lv_at hl 3 rfl) ?_
  have hT0 : TXA (fun _ => False) s H := hT.narrow (fun _ h9 => h9.elim)
  refine r_gS (As := [.ref (r 0), .int (xs (5 * k + 1)), .int (xs (5 * k + 2)), .ref o]) (rest := []) ⟨hx, hb, hml, hown, hts⟩ (hM1 _) hwc hw1 (vx_cwSW 4 hts gL_law_L_conflicts rfl rfl rfl (by decide +kernel) ⟨Nat.le_of_ble_eq_true rfl, Nat.le_of_ble_eq_true rfl⟩) hK hT0 hP hD hS hA is hC hnd had rfl hl.1 rfl (Nat.le_of_ble_eq_true rfl) dL_law_1345 ⟨hcells, hslots⟩ (fun H1 locs hP hD hS hz1 hk1 => ?_)
  have hT := hT.kept hk1
  refine lv_istore (lv' := [(5, .int (nI kx)), (0, .ref b), (1, .ref (r 0)), (2, .ref (g 0)), (3, .ref o), (4, .int (nI (5 * k)))]) hx hb dL_law_1348 hl (by decide) rfl (fun ls hl => ?_)
  refine lv_aload_n hx hb dL_law_1350 rfl (lv_at hl 3 rfl) ?_
  refine lv_aload_n hx hb dL_law_1351 rfl (lv_at hl 1 rfl) ?_
  refine lv_iload hx hb dL_law_1352 (lv_at hl 5 rfl) ?_
  refine lv_iconst (v := nI 1) hx hb dL_law_1354 (by decide) ?_
  refine r_iaddN hx hb dL_law_1355 ?_
  refine r_sld (j := 5 * k + 1) hx hb hX hbl hS (by omega) hL dL_law_1356 ?_
  refine lv_aload_n hx hb dL_law_1357 rfl (lv_at hl 1 rfl) ?_
  refine lv_iload hx hb dL_law_1358 (lv_at hl 5 rfl) ?_
  refine lv_iconst (v := nI 2) hx hb dL_law_1360 (by decide) ?_
  refine r_iaddN hx hb dL_law_1361 ?_
  refine r_sld (j := 5 * k + 2) hx hb hX hbl hS (by omega) hL dL_law_1362 ?_
  refine r_gV (As := [.int (xs (5 * k + 1)), .int (xs (5 * k + 2))]) (rest := []) (Cs := [M0]) (C1 := [M1]) ⟨hx, hb, hml, hown, hts⟩ (hM2 _) (fl1 _) (fl1 _) (cwV 2 hts gL_law_X4_conflicts rfl rfl rfl (by decide +kernel) ⟨by show f2 + 1 ≤ 11; omega, by show 8 + (5 + 11) + q2 ≤ 416; omega⟩) hK hP hD hS hA [9] (by simp only [List.map_cons, List.map_nil, h9]) rfl (by simp only [List.map_cons, List.map_nil, hadM]) 0 4 he0 rfl rfl hl.1 rfl (Nat.le_of_ble_eq_true rfl) dL_law_1363 ⟨hcells, hslots⟩ (fun H2 locs hP hD hS hz2 hk2 => ?_)
  have hT := hT.kept hk2
  refine lv_istore (lv' := [(6, .int (v2)), (5, .int (nI kx)), (0, .ref b), (1, .ref (r 0)), (2, .ref (g 0)), (3, .ref o), (4, .int (nI (5 * k)))]) hx hb dL_law_1366 hl (by decide) rfl (fun ls hl => ?_)
  refine lv_aload_n hx hb dL_law_1368 rfl (lv_at hl 4 rfl) ?_
  have h9M : (jnG (jnG Ls is C1) [9] [M1])[9]? = some M1 := by show ((jnG Ls is C1).set 9 M1)[9]? = some M1; rw [List.getElem?_set_self (List.getElem?_eq_some_iff.mp h9).1]
  refine r_gR (As := []) (rest := []) (Cs := [M1]) ⟨hx, hb, hml, hown, hts⟩ hth (fl1 _) (cwV 0 hts gL_law_X4_thrown rfl rfl rfl (by decide +kernel) ⟨Nat.le_of_ble_eq_true rfl, Nat.le_of_ble_eq_true rfl⟩) hK hP [9] (by simp only [List.map_cons, List.map_nil, h9M]) 0 4 he1 rfl rfl hl.1 rfl (Nat.le_of_ble_eq_true rfl) dL_law_1369 ⟨hcells, hslots⟩ ?_
  refine lv_iload hx hb dL_law_1372 (lv_at hl 1 rfl) ?_
  refine lv_icmp_eq (x := nI kx) (y := nI kx) (tgt := 1379) hx hb dL_law_1374 (by decide) (fun _ => ?_) (fun h => absurd rfl h)
  refine lv_iload hx hb dL_law_1379 (lv_at hl 1 rfl) ?_
  refine r_if_neN hx hb (x := kx) (by omega) (tgt := 1396) dL_law_1381 (by decide) (fun c0 => ?_) (fun c0 => ?_)
  · refine lv_goto (tgt := 1547) hx hb dL_law_1396 (by decide) ?_
    exact hnx _ _ hP hD hS hT ls (lv_sub hl [2, 3, 4, 5, 6] rfl)
  · refine lv_aload_n hx hb dL_law_1384 rfl (lv_at hl 5 rfl) ?_
    refine lv_iconst (v := nI 0) hx hb dL_law_1385 (by decide) ?_
    refine r_out hx hb hK hP h10 dL_law_1386 ?_
    refine lv_iload hx hb dL_law_1387 (lv_at hl 0 rfl) ?_
    refine lv_i2l (v := v2.toInt64) hx hb dL_law_1389 rfl ?_
    refine r_lcmpE (hcmp c0) hx hb (tgt := 1396) (pc2 := 0) dL_law_1390 dL_law_1391 (by decide) ?_
    refine lv_goto (tgt := 1547) hx hb dL_law_1396 (by decide) ?_
    exact hnx _ _ hP hD hS hT ls (lv_sub hl [2, 3, 4, 5, 6] rfl)
set_option maxHeartbeats 8000000 in
set_option maxRecDepth 100000 in
theorem lc_count {p : Program} {l : Launch} {e : Env} {s : State} {m : MethodId} {below : List Frame} {meth : Method} {c : Code} {b L : Nat} {xs : Nat → Int32} (hL : L ≤ 2560) (C0 : lw_At p s m meth c b L xs) {D : va_G} {ct : Nat → ClassId} (hK : KK D ct s) {r g : Nat → Nat} {o k cells slots : Nat} {mc ms kx f2 q2 : Nat} (hk : 5 * k + 5 ≤ L) (hcells : cells + mc ≤ 601024) (hslots : slots + ms ≤ 7293034) {Ls Cs C1 : List va_W} {wc w1 M0 M1 : va_W} {v2 : Int32} {ov : Int64} (is : List Nat) {fs fs1 : List Value} (hM1 : ∀ sz, Met l yL_count wsL_count ({ frames := 9, cells := mc, slots := ms, locals := 300 } : Room) (wrPcT D ct [.ref (r 0), .int (xs (5 * k + 1)), .int (xs (5 * k + 2)), .int (xs (5 * k + 3)), .ref o] wc sz) (wqI D (nI kx) w1 (va_A wc sz)) mc ms (va_A wc sz)) (hwc : wc = fl Cs) (hw1 : w1 = fl C1) (hC : is.map (fun i => Ls[i]?) = Cs.map some) (hnd : va_nd is = true) (had : C1.map (·.map Prod.fst) = Cs.map (·.map Prod.fst)) (hM2 : ∀ sz, Met l yX4_count wsX4_count ({ frames := f2, cells := 0, slots := 0, locals := q2 } : Room) (wrPc D ct [.ref (g 0), .int (xs (5 * k + 1)), .int (xs (5 * k + 2)), .int (xs (5 * k + 3))] M0 sz) (wqI D v2 M1 (va_A M0 sz)) 0 0 (va_A M0 sz)) (hf2 : f2 ≤ 10) (hq2 : q2 ≤ 370) (h9 : (jnG Ls is C1)[9]? = some M0) (hadM : M1.map Prod.fst = M0.map Prod.fst) (he0 : M0[0]? = some (g 0, .inr (4, fs))) (hth : Met l yX4_thrown wsX4_thrown ({ frames := 0, cells := 0, slots := 0, locals := 0 } : Room) (roPc D ct [.ref (g 0)] M1) (rqI (nI kx)) 0 0 (fun _ => False)) (he1 : M1[0]? = some (g 0, .inr (4, fs1))) (h10 : (jnG (jnG Ls is C1) [9] [M1])[10]? = some (wO ct o ov)) (hcmp : kx = 0 → ov = v2.toInt64) (hkx : kx < 4) (hnx : LSa p l e s m below meth c b D r g o 1547 k (jnG (jnG Ls is C1) [9] [M1]) (cells + mc) (slots + ms)) : LSa p l e s m below meth c b D r g o 1399 k Ls (cells) (slots) := by
  obtain ⟨hx, hb, hr, hml, hown, hts, hX, hbl, hlocks, hgv⟩ := C0
  have hts := fun w h => hts w (wsL_law_in w h)
  have hown : s.vm.findClass RL = some m.cls := hown
  have hb : c.code = cL_law := hb
  intro H locs hP hD hS hT ls hl
  have hA : ∀ q : Nat, s.heap.size ≤ q → (fun q : Nat => s.heap.size ≤ q) q := fun _ h => h
  refine lv_aload_n hx hb dL_law_1399 rfl (lv_at hl 1 rfl) ?_
  refine lv_aload_n hx hb dL_law_1400 rfl (lv_at hl 0 rfl) ?_
  refine lv_iload hx hb dL_law_1401 (lv_at hl 4 rfl) ?_
  refine lv_iconst (v := nI 1) hx hb dL_law_1403 (by decide) ?_
  refine r_iaddN hx hb dL_law_1404 ?_
  refine r_sld (j := 5 * k + 1) hx hb hX hbl hS (by omega) hL dL_law_1405 ?_
  refine lv_aload_n hx hb dL_law_1406 rfl (lv_at hl 0 rfl) ?_
  refine lv_iload hx hb dL_law_1407 (lv_at hl 4 rfl) ?_
  refine lv_iconst (v := nI 2) hx hb dL_law_1409 (by decide) ?_
  refine r_iaddN hx hb dL_law_1410 ?_
  refine r_sld (j := 5 * k + 2) hx hb hX hbl hS (by omega) hL dL_law_1411 ?_
  refine lv_aload_n hx hb dL_law_1412 rfl (lv_at hl 0 rfl) ?_
  refine lv_iload hx hb dL_law_1413 (lv_at hl 4 rfl) ?_
  refine lv_iconst (v := nI 3) hx hb dL_law_1415 (by decide) ?_
  refine r_iaddN hx hb dL_law_1416 ?_
  refine r_sld (j := 5 * k + 3) hx hb hX hbl hS (by omega) hL dL_law_1417 ?_
  refine lv_aload_n hx hb dL_law_1418 rfl (lv_at hl 3 rfl) ?_
  have hT0 : TXA (fun _ => False) s H := hT.narrow (fun _ h9 => h9.elim)
  refine r_gS (As := [.ref (r 0), .int (xs (5 * k + 1)), .int (xs (5 * k + 2)), .int (xs (5 * k + 3)), .ref o]) (rest := []) ⟨hx, hb, hml, hown, hts⟩ (hM1 _) hwc hw1 (vx_cwSW 5 hts gL_law_L_count rfl rfl rfl (by decide +kernel) ⟨Nat.le_of_ble_eq_true rfl, Nat.le_of_ble_eq_true rfl⟩) hK hT0 hP hD hS hA is hC hnd had rfl hl.1 rfl (Nat.le_of_ble_eq_true rfl) dL_law_1419 ⟨hcells, hslots⟩ (fun H1 locs hP hD hS hz1 hk1 => ?_)
  have hT := hT.kept hk1
  refine lv_istore (lv' := [(5, .int (nI kx)), (0, .ref b), (1, .ref (r 0)), (2, .ref (g 0)), (3, .ref o), (4, .int (nI (5 * k)))]) hx hb dL_law_1422 hl (by decide) rfl (fun ls hl => ?_)
  refine lv_aload_n hx hb dL_law_1424 rfl (lv_at hl 3 rfl) ?_
  refine lv_aload_n hx hb dL_law_1425 rfl (lv_at hl 1 rfl) ?_
  refine lv_iload hx hb dL_law_1426 (lv_at hl 5 rfl) ?_
  refine lv_iconst (v := nI 1) hx hb dL_law_1428 (by decide) ?_
  refine r_iaddN hx hb dL_law_1429 ?_
  refine r_sld (j := 5 * k + 1) hx hb hX hbl hS (by omega) hL dL_law_1430 ?_
  refine lv_aload_n hx hb dL_law_1431 rfl (lv_at hl 1 rfl) ?_
  refine lv_iload hx hb dL_law_1432 (lv_at hl 5 rfl) ?_
  refine lv_iconst (v := nI 2) hx hb dL_law_1434 (by decide) ?_
  refine r_iaddN hx hb dL_law_1435 ?_
  refine r_sld (j := 5 * k + 2) hx hb hX hbl hS (by omega) hL dL_law_1436 ?_
  refine lv_aload_n hx hb dL_law_1437 rfl (lv_at hl 1 rfl) ?_
  refine lv_iload hx hb dL_law_1438 (lv_at hl 5 rfl) ?_
  refine lv_iconst (v := nI 3) hx hb dL_law_1440 (by decide) ?_
  refine r_iaddN hx hb dL_law_1441 ?_
  refine r_sld (j := 5 * k + 3) hx hb hX hbl hS (by omega) hL dL_law_1442 ?_
  refine r_gV (As := [.int (xs (5 * k + 1)), .int (xs (5 * k + 2)), .int (xs (5 * k + 3))]) (rest := []) (Cs := [M0]) (C1 := [M1]) ⟨hx, hb, hml, hown, hts⟩ (hM2 _) (fl1 _) (fl1 _) (cwV 3 hts gL_law_X4_count rfl rfl rfl (by decide +kernel) ⟨by show f2 + 1 ≤ 11; omega, by show 8 + (8 + 11) + q2 ≤ 416; omega⟩) hK hP hD hS hA [9] (by simp only [List.map_cons, List.map_nil, h9]) rfl (by simp only [List.map_cons, List.map_nil, hadM]) 0 4 he0 rfl rfl hl.1 rfl (Nat.le_of_ble_eq_true rfl) dL_law_1443 ⟨hcells, hslots⟩ (fun H2 locs hP hD hS hz2 hk2 => ?_)
  have hT := hT.kept hk2
  refine lv_istore (lv' := [(6, .int (v2)), (5, .int (nI kx)), (0, .ref b), (1, .ref (r 0)), (2, .ref (g 0)), (3, .ref o), (4, .int (nI (5 * k)))]) hx hb dL_law_1446 hl (by decide) rfl (fun ls hl => ?_)
  refine lv_aload_n hx hb dL_law_1448 rfl (lv_at hl 4 rfl) ?_
  have h9M : (jnG (jnG Ls is C1) [9] [M1])[9]? = some M1 := by show ((jnG Ls is C1).set 9 M1)[9]? = some M1; rw [List.getElem?_set_self (List.getElem?_eq_some_iff.mp h9).1]
  refine r_gR (As := []) (rest := []) (Cs := [M1]) ⟨hx, hb, hml, hown, hts⟩ hth (fl1 _) (cwV 0 hts gL_law_X4_thrown rfl rfl rfl (by decide +kernel) ⟨Nat.le_of_ble_eq_true rfl, Nat.le_of_ble_eq_true rfl⟩) hK hP [9] (by simp only [List.map_cons, List.map_nil, h9M]) 0 4 he1 rfl rfl hl.1 rfl (Nat.le_of_ble_eq_true rfl) dL_law_1449 ⟨hcells, hslots⟩ ?_
  refine lv_iload hx hb dL_law_1452 (lv_at hl 1 rfl) ?_
  refine lv_icmp_eq (x := nI kx) (y := nI kx) (tgt := 1459) hx hb dL_law_1454 (by decide) (fun _ => ?_) (fun h => absurd rfl h)
  refine lv_iload hx hb dL_law_1459 (lv_at hl 1 rfl) ?_
  refine r_if_neN hx hb (x := kx) (by omega) (tgt := 1476) dL_law_1461 (by decide) (fun c0 => ?_) (fun c0 => ?_)
  · refine lv_goto (tgt := 1547) hx hb dL_law_1476 (by decide) ?_
    exact hnx _ _ hP hD hS hT ls (lv_sub hl [2, 3, 4, 5, 6] rfl)
  · refine lv_aload_n hx hb dL_law_1464 rfl (lv_at hl 5 rfl) ?_
    refine lv_iconst (v := nI 0) hx hb dL_law_1465 (by decide) ?_
    refine r_out hx hb hK hP h10 dL_law_1466 ?_
    refine lv_iload hx hb dL_law_1467 (lv_at hl 0 rfl) ?_
    refine lv_i2l (v := v2.toInt64) hx hb dL_law_1469 rfl ?_
    refine r_lcmpE (hcmp c0) hx hb (tgt := 1476) (pc2 := 0) dL_law_1470 dL_law_1471 (by decide) ?_
    refine lv_goto (tgt := 1547) hx hb dL_law_1476 (by decide) ?_
    exact hnx _ _ hP hD hS hT ls (lv_sub hl [2, 3, 4, 5, 6] rfl)
set_option maxHeartbeats 8000000 in
set_option maxRecDepth 100000 in
theorem lc_viewAt {p : Program} {l : Launch} {e : Env} {s : State} {m : MethodId} {below : List Frame} {meth : Method} {c : Code} {b L : Nat} {xs : Nat → Int32} (hL : L ≤ 2560) (C0 : lw_At p s m meth c b L xs) {D : va_G} {ct : Nat → ClassId} (hK : KK D ct s) {r g : Nat → Nat} {o k cells slots : Nat} {mc ms kx f2 q2 : Nat} (hk : 5 * k + 5 ≤ L) (hcells : cells + mc ≤ 601024) (hslots : slots + ms ≤ 7293034) {Ls Cs C1 : List va_W} {wc w1 M0 M1 : va_W} {v2 : Int32} {ov : Int64} (is : List Nat) {fs fs1 : List Value} (hM1 : ∀ sz, Met l yL_viewAt wsL_viewAt ({ frames := 9, cells := mc, slots := ms, locals := 300 } : Room) (wrPcT D ct [.ref (r 0), .int (xs (5 * k + 1)), .int (xs (5 * k + 2)), .ref o] wc sz) (wqI D (nI kx) w1 (va_A wc sz)) mc ms (va_A wc sz)) (hwc : wc = fl Cs) (hw1 : w1 = fl C1) (hC : is.map (fun i => Ls[i]?) = Cs.map some) (hnd : va_nd is = true) (had : C1.map (·.map Prod.fst) = Cs.map (·.map Prod.fst)) (hM2 : ∀ sz, Met l yX4_viewAt wsX4_viewAt ({ frames := f2, cells := 0, slots := 0, locals := q2 } : Room) (wrPc D ct [.ref (g 0), .int (xs (5 * k + 1)), .int (xs (5 * k + 2))] M0 sz) (wqI D v2 M1 (va_A M0 sz)) 0 0 (va_A M0 sz)) (hf2 : f2 ≤ 10) (hq2 : q2 ≤ 370) (h9 : (jnG Ls is C1)[9]? = some M0) (hadM : M1.map Prod.fst = M0.map Prod.fst) (he0 : M0[0]? = some (g 0, .inr (4, fs))) (hth : Met l yX4_thrown wsX4_thrown ({ frames := 0, cells := 0, slots := 0, locals := 0 } : Room) (roPc D ct [.ref (g 0)] M1) (rqI (nI kx)) 0 0 (fun _ => False)) (he1 : M1[0]? = some (g 0, .inr (4, fs1))) (h10 : (jnG (jnG Ls is C1) [9] [M1])[10]? = some (wO ct o ov)) (hcmp : kx = 0 → ov = v2.toInt64) (hkx : kx < 4) (hnx : LSa p l e s m below meth c b D r g o 1547 k (jnG (jnG Ls is C1) [9] [M1]) (cells + mc) (slots + ms)) : LSa p l e s m below meth c b D r g o 1479 k Ls (cells) (slots) := by
  obtain ⟨hx, hb, hr, hml, hown, hts, hX, hbl, hlocks, hgv⟩ := C0
  have hts := fun w h => hts w (wsL_law_in w h)
  have hown : s.vm.findClass RL = some m.cls := hown
  have hb : c.code = cL_law := hb
  intro H locs hP hD hS hT ls hl
  have hA : ∀ q : Nat, s.heap.size ≤ q → (fun q : Nat => s.heap.size ≤ q) q := fun _ h => h
  refine lv_aload_n hx hb dL_law_1479 rfl (lv_at hl 1 rfl) ?_
  refine lv_aload_n hx hb dL_law_1480 rfl (lv_at hl 0 rfl) ?_
  refine lv_iload hx hb dL_law_1481 (lv_at hl 4 rfl) ?_
  refine lv_iconst (v := nI 1) hx hb dL_law_1483 (by decide) ?_
  refine r_iaddN hx hb dL_law_1484 ?_
  refine r_sld (j := 5 * k + 1) hx hb hX hbl hS (by omega) hL dL_law_1485 ?_
  refine lv_aload_n hx hb dL_law_1486 rfl (lv_at hl 0 rfl) ?_
  refine lv_iload hx hb dL_law_1487 (lv_at hl 4 rfl) ?_
  refine lv_iconst (v := nI 2) hx hb dL_law_1489 (by decide) ?_
  refine r_iaddN hx hb dL_law_1490 ?_
  refine r_sld (j := 5 * k + 2) hx hb hX hbl hS (by omega) hL dL_law_1491 ?_
  refine lv_aload_n hx hb dL_law_1492 rfl (lv_at hl 3 rfl) ?_
  have hT0 : TXA (fun _ => False) s H := hT.narrow (fun _ h9 => h9.elim)
  refine r_gS (As := [.ref (r 0), .int (xs (5 * k + 1)), .int (xs (5 * k + 2)), .ref o]) (rest := []) ⟨hx, hb, hml, hown, hts⟩ (hM1 _) hwc hw1 (vx_cwSW 4 hts gL_law_L_viewAt rfl rfl rfl (by decide +kernel) ⟨Nat.le_of_ble_eq_true rfl, Nat.le_of_ble_eq_true rfl⟩) hK hT0 hP hD hS hA is hC hnd had rfl hl.1 rfl (Nat.le_of_ble_eq_true rfl) dL_law_1493 ⟨hcells, hslots⟩ (fun H1 locs hP hD hS hz1 hk1 => ?_)
  have hT := hT.kept hk1
  refine lv_istore (lv' := [(5, .int (nI kx)), (0, .ref b), (1, .ref (r 0)), (2, .ref (g 0)), (3, .ref o), (4, .int (nI (5 * k)))]) hx hb dL_law_1496 hl (by decide) rfl (fun ls hl => ?_)
  refine lv_aload_n hx hb dL_law_1498 rfl (lv_at hl 3 rfl) ?_
  refine lv_aload_n hx hb dL_law_1499 rfl (lv_at hl 1 rfl) ?_
  refine lv_iload hx hb dL_law_1500 (lv_at hl 5 rfl) ?_
  refine lv_iconst (v := nI 1) hx hb dL_law_1502 (by decide) ?_
  refine r_iaddN hx hb dL_law_1503 ?_
  refine r_sld (j := 5 * k + 1) hx hb hX hbl hS (by omega) hL dL_law_1504 ?_
  refine lv_aload_n hx hb dL_law_1505 rfl (lv_at hl 1 rfl) ?_
  refine lv_iload hx hb dL_law_1506 (lv_at hl 5 rfl) ?_
  refine lv_iconst (v := nI 2) hx hb dL_law_1508 (by decide) ?_
  refine r_iaddN hx hb dL_law_1509 ?_
  refine r_sld (j := 5 * k + 2) hx hb hX hbl hS (by omega) hL dL_law_1510 ?_
  refine r_gV (As := [.int (xs (5 * k + 1)), .int (xs (5 * k + 2))]) (rest := []) (Cs := [M0]) (C1 := [M1]) ⟨hx, hb, hml, hown, hts⟩ (hM2 _) (fl1 _) (fl1 _) (cwV 2 hts gL_law_X4_viewAt rfl rfl rfl (by decide +kernel) ⟨by show f2 + 1 ≤ 11; omega, by show 8 + (4 + 11) + q2 ≤ 416; omega⟩) hK hP hD hS hA [9] (by simp only [List.map_cons, List.map_nil, h9]) rfl (by simp only [List.map_cons, List.map_nil, hadM]) 0 4 he0 rfl rfl hl.1 rfl (Nat.le_of_ble_eq_true rfl) dL_law_1511 ⟨hcells, hslots⟩ (fun H2 locs hP hD hS hz2 hk2 => ?_)
  have hT := hT.kept hk2
  refine lv_istore (lv' := [(6, .int (v2)), (5, .int (nI kx)), (0, .ref b), (1, .ref (r 0)), (2, .ref (g 0)), (3, .ref o), (4, .int (nI (5 * k)))]) hx hb dL_law_1514 hl (by decide) rfl (fun ls hl => ?_)
  refine lv_aload_n hx hb dL_law_1516 rfl (lv_at hl 4 rfl) ?_
  have h9M : (jnG (jnG Ls is C1) [9] [M1])[9]? = some M1 := by show ((jnG Ls is C1).set 9 M1)[9]? = some M1; rw [List.getElem?_set_self (List.getElem?_eq_some_iff.mp h9).1]
  refine r_gR (As := []) (rest := []) (Cs := [M1]) ⟨hx, hb, hml, hown, hts⟩ hth (fl1 _) (cwV 0 hts gL_law_X4_thrown rfl rfl rfl (by decide +kernel) ⟨Nat.le_of_ble_eq_true rfl, Nat.le_of_ble_eq_true rfl⟩) hK hP [9] (by simp only [List.map_cons, List.map_nil, h9M]) 0 4 he1 rfl rfl hl.1 rfl (Nat.le_of_ble_eq_true rfl) dL_law_1517 ⟨hcells, hslots⟩ ?_
  refine lv_iload hx hb dL_law_1520 (lv_at hl 1 rfl) ?_
  refine lv_icmp_eq (x := nI kx) (y := nI kx) (tgt := 1527) hx hb dL_law_1522 (by decide) (fun _ => ?_) (fun h => absurd rfl h)
  refine lv_iload hx hb dL_law_1527 (lv_at hl 1 rfl) ?_
  refine r_if_neN hx hb (x := kx) (by omega) (tgt := 1544) dL_law_1529 (by decide) (fun c0 => ?_) (fun c0 => ?_)
  · refine lv_goto (tgt := 1547) hx hb dL_law_1544 (by decide) ?_
    exact hnx _ _ hP hD hS hT ls (lv_sub hl [2, 3, 4, 5, 6] rfl)
  · refine lv_aload_n hx hb dL_law_1532 rfl (lv_at hl 5 rfl) ?_
    refine lv_iconst (v := nI 0) hx hb dL_law_1533 (by decide) ?_
    refine r_out hx hb hK hP h10 dL_law_1534 ?_
    refine lv_iload hx hb dL_law_1535 (lv_at hl 0 rfl) ?_
    refine lv_i2l (v := v2.toInt64) hx hb dL_law_1537 rfl ?_
    refine r_lcmpE (hcmp c0) hx hb (tgt := 1544) (pc2 := 0) dL_law_1538 dL_law_1539 (by decide) ?_
    refine lv_goto (tgt := 1547) hx hb dL_law_1544 (by decide) ?_
    exact hnx _ _ hP hD hS hT ls (lv_sub hl [2, 3, 4, 5, 6] rfl)
