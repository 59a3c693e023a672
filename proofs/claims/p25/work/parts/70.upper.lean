/-! the world of the law's upper methods: the class in nine segments, then the law's ten arrays -/
noncomputable def uW (ct : Nat → ClassId) (r : Nat → Nat) (a : Nat → Nat) (u : Nat → Nat) (sa : Nat → Nat → Nat) (ha : Nat → Nat → Nat) (Ba : Nat → Nat) (n : Nat) (dc : Nat → Nat) (pa : Nat → Option Nat) (va : Nat → Int32) (dl : Nat → Bool) (ge : Nat → Nat) (su : Nat → Int32) (hu : Nat → Bool) (nu : Nat → Nat) (wu : Nat → Option Nat) (dps : Nat → Int32) (lts : Nat → Int32) (chs : Nat → Nat → Int32) (cks : Nat → Nat → Int32) (hds : Nat → Nat → Bool) (nls : Nat → Nat → Nat) (wis : Nat → Nat → Option Nat) (nL : Nat) (dcL : Nat → Nat) (paL : Nat → Option Nat) (geL : Nat → Nat) (vo : Nat → Option Nat) (un : Nat → Nat) (an : Nat → Nat → Bool) (S : Nat → Nat → Bool) (dp : Nat → Nat) (sq : Nat → Nat) (qq : Nat → Nat) (cc : Nat → Nat) : List va_W :=
  [wR ct r a u sa, wT ct a n dc pa va dl ge su, wH ct u hu nu wu, wS ct (sa 0) (ha 0) (dps 0) (lts 0) (chs 0) (cks 0), wH ct (ha 0) (hds 0) (nls 0) (wis 0), wS ct (sa 1) (ha 1) (dps 1) (lts 1) (chs 1) (cks 1), wH ct (ha 1) (hds 1) (nls 1) (wis 1), wS ct (sa 2) (ha 2) (dps 2) (lts 2) (chs 2) (cks 2), wH ct (ha 2) (hds 2) (nls 2) (wis 2), wAN ct (Ba 0) 24 dcL, wAP ct (Ba 1) 24 vo, wAP ct (Ba 2) 24 paL, wAN ct (Ba 3) 24 geL, wAN ct (Ba 4) 24 un, wAM ct (Ba 5) 24 an, wAT ct (Ba 6) S dp sq, wAN ct (Ba 7) 12 qq, wAN ct (Ba 8) 27 cc, wA1 ct (Ba 9) nL]
section UWS
variable {ct : Nat → ClassId} {r : Nat → Nat} {a : Nat → Nat} {u : Nat → Nat} {sa : Nat → Nat → Nat} {ha : Nat → Nat → Nat} {Ba : Nat → Nat} {n : Nat} {dc : Nat → Nat} {pa : Nat → Option Nat} {va : Nat → Int32} {dl : Nat → Bool} {ge : Nat → Nat} {su : Nat → Int32} {hu : Nat → Bool} {nu : Nat → Nat} {wu : Nat → Option Nat} {dps : Nat → Int32} {lts : Nat → Int32} {chs : Nat → Nat → Int32} {cks : Nat → Nat → Int32} {hds : Nat → Nat → Bool} {nls : Nat → Nat → Nat} {wis : Nat → Nat → Option Nat} {nL : Nat} {dcL : Nat → Nat} {paL : Nat → Option Nat} {geL : Nat → Nat} {vo : Nat → Option Nat} {un : Nat → Nat} {an : Nat → Nat → Bool} {S : Nat → Nat → Bool} {dp : Nat → Nat} {sq : Nat → Nat} {qq : Nat → Nat} {cc : Nat → Nat} {i j : Nat}
theorem uW_S (hi : i < 3) : (uW ct r a u sa ha Ba n dc pa va dl ge su hu nu wu dps lts chs cks hds nls wis nL dcL paL geL vo un an S dp sq qq cc)[3 + 2 * i]? = some (wS ct (sa i) (ha i) (dps i) (lts i) (chs i) (cks i)) := by
  rcases (show i = 0 ∨ i = 1 ∨ i = 2 by omega) with rfl | rfl | rfl <;> rfl
theorem uW_H (hi : i < 3) : (uW ct r a u sa ha Ba n dc pa va dl ge su hu nu wu dps lts chs cks hds nls wis nL dcL paL geL vo un an S dp sq qq cc)[4 + 2 * i]? = some (wH ct (ha i) (hds i) (nls i) (wis i)) := by
  rcases (show i = 0 ∨ i = 1 ∨ i = 2 by omega) with rfl | rfl | rfl <;> rfl
theorem uW_1 (hi : i < 3) : [0, 1, 3 + 2 * i, 4 + 2 * i].map (fun q => (uW ct r a u sa ha Ba n dc pa va dl ge su hu nu wu dps lts chs cks hds nls wis nL dcL paL geL vo un an S dp sq qq cc)[q]?) = [wR ct r a u sa, wT ct a n dc pa va dl ge su, wS ct (sa i) (ha i) (dps i) (lts i) (chs i) (cks i), wH ct (ha i) (hds i) (nls i) (wis i)].map some := by
  simp only [List.map_cons, List.map_nil]
  rw [uW_S hi, uW_H hi]
  rfl
theorem uW_2 (hi : i < 3) (hj : j < 3) : [0, 1, 3 + 2 * i, 4 + 2 * i, 3 + 2 * j, 4 + 2 * j].map (fun q => (uW ct r a u sa ha Ba n dc pa va dl ge su hu nu wu dps lts chs cks hds nls wis nL dcL paL geL vo un an S dp sq qq cc)[q]?) = [wR ct r a u sa, wT ct a n dc pa va dl ge su, wS ct (sa i) (ha i) (dps i) (lts i) (chs i) (cks i), wH ct (ha i) (hds i) (nls i) (wis i), wS ct (sa j) (ha j) (dps j) (lts j) (chs j) (cks j), wH ct (ha j) (hds j) (nls j) (wis j)].map some := by
  simp only [List.map_cons, List.map_nil]
  rw [uW_S hi, uW_H hi, uW_S hj, uW_H hj]
  rfl
theorem und_1 (hi : i < 3) : va_nd [0, 1, 3 + 2 * i, 4 + 2 * i] = true := by
  rcases (show i = 0 ∨ i = 1 ∨ i = 2 by omega) with rfl | rfl | rfl <;> decide
theorem und_2 (hi : i < 3) (hj : j < 3) (hij : i ≠ j) : va_nd [0, 1, 3 + 2 * i, 4 + 2 * i, 3 + 2 * j, 4 + 2 * j] = true := by
  rcases (show i = 0 ∨ i = 1 ∨ i = 2 by omega) with rfl | rfl | rfl <;> rcases (show j = 0 ∨ j = 1 ∨ j = 2 by omega) with rfl | rfl | rfl <;> first | exact absurd rfl hij | decide
theorem uW_j1 (hi : i < 3) {n2 : Nat} {dc2 : Nat → Nat} {pa2 : Nat → Option Nat} {va2 : Nat → Int32} {dl2 : Nat → Bool} {ge2 : Nat → Nat} {su2 : Nat → Int32} {dp1 lt1 : Int32} {ch1 ck1 : Nat → Int32} {hd1 : Nat → Bool} {nl1 : Nat → Nat} {wi1 : Nat → Option Nat} : jnG (uW ct r a u sa ha Ba n dc pa va dl ge su hu nu wu dps lts chs cks hds nls wis nL dcL paL geL vo un an S dp sq qq cc) [0, 1, 3 + 2 * i, 4 + 2 * i] [wR ct r a u sa, wT ct a n2 dc2 pa2 va2 dl2 ge2 su2, wS ct (sa i) (ha i) dp1 lt1 ch1 ck1, wH ct (ha i) hd1 nl1 wi1] =
    uW ct r a u sa ha Ba n2 dc2 pa2 va2 dl2 ge2 su2 hu nu wu (va_up dps i dp1) (va_up lts i lt1) (va_up chs i ch1) (va_up cks i ck1) (va_up hds i hd1) (va_up nls i nl1) (va_up wis i wi1) nL dcL paL geL vo un an S dp sq qq cc := by
  rcases (show i = 0 ∨ i = 1 ∨ i = 2 by omega) with rfl | rfl | rfl <;> rfl
theorem uW_j2 (hi : i < 3) (hj : j < 3) (hij : i ≠ j) {lt1 : Int32} {ch1 ck1 cki : Nat → Int32} {hd1 : Nat → Bool} {nl1 : Nat → Nat} {wi1 : Nat → Option Nat} : jnG (uW ct r a u sa ha Ba n dc pa va dl ge su hu nu wu dps lts chs cks hds nls wis nL dcL paL geL vo un an S dp sq qq cc) [0, 1, 3 + 2 * i, 4 + 2 * i, 3 + 2 * j, 4 + 2 * j] [wR ct r a u sa, wT ct a n dc pa va dl ge su, wS ct (sa i) (ha i) (dps i) (lts i) (chs i) cki, wH ct (ha i) (hds i) (nls i) (wis i), wS ct (sa j) (ha j) (dps j) lt1 ch1 ck1, wH ct (ha j) hd1 nl1 wi1] =
    uW ct r a u sa ha Ba n dc pa va dl ge su hu nu wu dps (va_up lts j lt1) (va_up chs j ch1) (va_up (va_up cks i cki) j ck1) (va_up hds j hd1) (va_up nls j nl1) (va_up wis j wi1) nL dcL paL geL vo un an S dp sq qq cc := by
  rcases (show i = 0 ∨ i = 1 ∨ i = 2 by omega) with rfl | rfl | rfl <;> rcases (show j = 0 ∨ j = 1 ∨ j = 2 by omega) with rfl | rfl | rfl <;> first | exact absurd rfl hij | rfl
end UWS
/-- a world of the law in which both sides agree -/
def GW (ct : Nat → ClassId) (r : Nat → Nat) (a : Nat → Nat) (u : Nat → Nat) (sa : Nat → Nat → Nat) (ha : Nat → Nat → Nat) (Ba : Nat → Nat) (Bd : Nat) (w : va_W) : Prop := ∃ (n : Nat) (dc : Nat → Nat) (pa : Nat → Option Nat) (va : Nat → Int32) (dl : Nat → Bool) (ge : Nat → Nat) (su : Nat → Int32) (hu : Nat → Bool) (nu : Nat → Nat) (wu : Nat → Option Nat) (dps : Nat → Int32) (lts : Nat → Int32) (chs : Nat → Nat → Int32) (cks : Nat → Nat → Int32) (hds : Nat → Nat → Bool) (nls : Nat → Nat → Nat) (wis : Nat → Nat → Option Nat) (vo : Nat → Option Nat) (un : Nat → Nat) (an : Nat → Nat → Bool) (dp : Nat → Nat) (sq : Nat → Nat) (qq : Nat → Nat) (cc : Nat → Nat), w = fl (uW ct r a u sa ha Ba n dc pa va dl ge su hu nu wu dps lts chs cks hds nls wis n dc pa ge vo un an hds dp sq qq cc) ∧ JJ Bd n dc pa va dl ge su vo un an dp sq qq cc dps lts chs cks hds nls wis
section GWS
variable {ct : Nat → ClassId} {r : Nat → Nat} {a : Nat → Nat} {u : Nat → Nat} {sa : Nat → Nat → Nat} {ha : Nat → Nat → Nat} {Ba : Nat → Nat} {n : Nat} {dc : Nat → Nat} {pa : Nat → Option Nat} {va : Nat → Int32} {dl : Nat → Bool} {ge : Nat → Nat} {su : Nat → Int32} {hu : Nat → Bool} {nu : Nat → Nat} {wu : Nat → Option Nat} {dps : Nat → Int32} {lts : Nat → Int32} {chs : Nat → Nat → Int32} {cks : Nat → Nat → Int32} {hds : Nat → Nat → Bool} {nls : Nat → Nat → Nat} {wis : Nat → Nat → Option Nat} {vo : Nat → Option Nat} {un : Nat → Nat} {an : Nat → Nat → Bool} {dp : Nat → Nat} {sq : Nat → Nat} {qq : Nat → Nat} {cc : Nat → Nat} {Bd : Nat}
theorem GW_mk (h : JJ Bd n dc pa va dl ge su vo un an dp sq qq cc dps lts chs cks hds nls wis) : GW ct r a u sa ha Ba Bd (fl (uW ct r a u sa ha Ba n dc pa va dl ge su hu nu wu dps lts chs cks hds nls wis n dc pa ge vo un an hds dp sq qq cc)) := ⟨n, dc, pa, va, dl, ge, su, hu, nu, wu, dps, lts, chs, cks, hds, nls, wis, vo, un, an, dp, sq, qq, cc, rfl, h⟩
theorem GW_fst {w : va_W} (h : GW ct r a u sa ha Ba Bd w) : w.map Prod.fst = (fl (uW ct r a u sa ha Ba n dc pa va dl ge su hu nu wu dps lts chs cks hds nls wis n dc pa ge vo un an hds dp sq qq cc)).map Prod.fst := by
  obtain ⟨n9, dc9, pa9, va9, dl9, ge9, su9, hu9, nu9, wu9, dps9, lts9, chs9, cks9, hds9, nls9, wis9, vo9, un9, an9, dp9, sq9, qq9, cc9, rfl, -⟩ := h
  rfl
end GWS
abbrev geQ (D : va_G) (v : Int32) (G : va_W → Prop) (A : Nat → Prop) : Array Value → State → Outcome → State → Prop := va_Qi (fun (r : Int32) (w : va_W) => r = v ∧ G w) (fun w t => va_P D vwCl w t.heap) A
abbrev acPc (D : va_G) (ct : Nat → ClassId) (av : List Value) (wc : va_W) (sz : Nat) : Array Value → State → Prop := va_Pc av (fun U => U.heap.size = sz ∧ va_P D vwCl wc U.heap ∧ KK D ct U ∧ va_D (fun _ => True) wc ∧ TXA (va_A wc sz) U U.heap)
theorem ac_blind {D : va_G} {ct : Nat → ClassId} {av : List Value} {wc : va_W} {sz : Nat} : FrameBlind (acPc D ct av wc sz) := fun a U g mk q => ⟨q.1, q.2.1, q.2.2.1, q.2.2.2.1.call, q.2.2.2.2.1, q.2.2.2.2.2.call⟩
theorem ac_pre {D : va_G} {ct : Nat → ClassId} {av : List Value} {wc : va_W} {A : Nat → Prop} {s : State} {H : Heap} (hK : KK D ct s) (hP : va_P D vwCl wc H) (hD : va_D A wc) (hT : TXA (va_A wc H.size) s H) : ∀ U : State, U.heap = H → s.WarmedH U.vm → acPc D ct av wc H.size av.toArray U := fun U hU hW => ⟨rfl, by rw [hU], by rw [hU]; exact hP, hK.warm hW, hD.weaken (fun _ _ _ _ => trivial), by rw [hU]; exact hT.warm hW⟩
section RUP
variable {p : Program} {l : Launch} {e : Env} {R : Room} {s : State} {m : MethodId} {args : Array Value} {below : List Frame} {meth : Method} {c : Code} {H H0 : Heap} {locs : List Loc} {cells slots : Nat} {Q : State → Prop} {A : Nat → Prop}
variable {cc : ByteArray} {pc : Nat} {ls : Array Slot} {rest st : List Value} {D : va_G} {ct : Nat → ClassId} {wc w1 : va_W} {Ls Cs C1 : List va_W}
variable {Ts wy : List Cond} {own C : String} {index maxL n nL mc ms : Nat} {y : MethodName} {bytes : ByteArray} {ret : Option FieldType} {rm : Room} {As : List Value} {b : Nat} {v : Int32}
theorem r_uS (F : CallFix p m c cc nL s args Ts own) (hM : Met l y wy rm (roPc D ct As wc) (rqI v) 0 0 (fun _ => False)) (hwc : wc = fl Cs) (cw : CallB R s args own index y bytes maxL ret wy rm 0 0 n ∧ (Cond.static y).before args s = true) (hK : KK D ct s) (hP : va_P D vwCl (fl Ls) H) (is : List Nat) (hC : is.map (fun i => Ls[i]?) = Cs.map some)
    (hn : As.length = n) (hsize : ls.size = nL) (hstack : st = As.reverse ++ rest) (hW : (rest.map fun v => v.category).sum ≤ 8) (hdg : decode cc pc = .ok (.invokestatic index, 3)) (hf : cells + 0 ≤ R.cells ∧ slots + 0 ≤ R.slots)
    (kk : W p l e R s m args below meth c H locs cells slots Q (F0 m (pc + 3) ls (.int v :: rest))) : W p l e R s m args below meth c H locs cells slots Q (F0 m pc ls st) := by
  subst hwc
  exact r_cS F hM cw hK (seg_P hP is hC) hn hsize hstack hW hdg hf kk
theorem r_uSi (F : CallFix p m c cc nL s args Ts own) (hM : Met l y wy rm (wrPc D ct As wc H.size) (wqI D v w1 (va_A wc H.size)) mc ms (va_A wc H.size)) (hwc : wc = fl Cs) (hw1 : w1 = fl C1) (cw : CallB R s args own index y bytes maxL ret wy rm mc ms n ∧ (Cond.static y).before args s = true) (hK : KK D ct s) (hP : va_P D vwCl (fl Ls) H) (hD : va_D A (fl Ls)) (hS : va_S A H0 H locs) (hA : ∀ q, H0.size ≤ q → A q) (is : List Nat) (hC : is.map (fun i => Ls[i]?) = Cs.map some) (hnd : va_nd is = true) (had : C1.map (·.map Prod.fst) = Cs.map (·.map Prod.fst))
    (hn : As.length = n) (hsize : ls.size = nL) (hstack : st = As.reverse ++ rest) (hW : (rest.map fun v => v.category).sum ≤ 8) (hdg : decode cc pc = .ok (.invokestatic index, 3)) (hf : cells + mc ≤ R.cells ∧ slots + ms ≤ R.slots)
    (kk : ∀ (H1 : Heap) (locs1 : List Loc), va_P D vwCl (fl (jnG Ls is C1)) H1 → va_D A (fl (jnG Ls is C1)) → va_S A H0 H1 locs1 → W p l e R s m args below meth c H1 locs1 (cells + mc) (slots + ms) Q (F0 m (pc + 3) ls (.int v :: rest))) : W p l e R s m args below meth c H locs cells slots Q (F0 m pc ls st) := by
  subst hwc; subst hw1
  have hPc := seg_P hP is hC
  have hDc := seg_D hD is hnd hC
  have hF := seg_free hD hS hA is hnd hC
  exact va_calli (va_runS (g := F0 m pc ls st) F hM cw ⟨wr_blind, wr_pre hK hPc hDc⟩ rfl hn hsize hstack (lv_room hW) hdg hf) hS (fun q _ h => hF q h) hF (fun r u t H1 locs1 ht hvm hw hB hz hk hS1 => by
    rw [hw]
    rw [ht] at hB
    obtain ⟨g1, g2⟩ := seg_join hP hD is hC hnd had hk hB
    exact kk H1 locs1 g1 g2 hS1)
/-- a static method that may throw within, and catches it -/
theorem r_uSt (F : CallFix p m c cc nL s args Ts own) (hM : Met l y wy rm (wrPcT D ct As wc H.size) (wqI D v w1 (va_A wc H.size)) mc ms (va_A wc H.size)) (hT : TXA (fun _ => False) s H) (hwc : wc = fl Cs) (hw1 : w1 = fl C1) (cw : CallB R s args own index y bytes maxL ret wy rm mc ms n ∧ (Cond.static y).before args s = true) (hK : KK D ct s) (hP : va_P D vwCl (fl Ls) H) (hD : va_D A (fl Ls)) (hS : va_S A H0 H locs) (hA : ∀ q, H0.size ≤ q → A q) (is : List Nat) (hC : is.map (fun i => Ls[i]?) = Cs.map some) (hnd : va_nd is = true) (had : C1.map (·.map Prod.fst) = Cs.map (·.map Prod.fst))
    (hn : As.length = n) (hsize : ls.size = nL) (hstack : st = As.reverse ++ rest) (hW : (rest.map fun v => v.category).sum ≤ 8) (hdg : decode cc pc = .ok (.invokestatic index, 3)) (hf : cells + mc ≤ R.cells ∧ slots + ms ≤ R.slots)
    (kk : ∀ (H1 : Heap) (locs1 : List Loc), va_P D vwCl (fl (jnG Ls is C1)) H1 → va_D A (fl (jnG Ls is C1)) → va_S A H0 H1 locs1 → W p l e R s m args below meth c H1 locs1 (cells + mc) (slots + ms) Q (F0 m (pc + 3) ls (.int v :: rest))) : W p l e R s m args below meth c H locs cells slots Q (F0 m pc ls st) := by
  subst hwc; subst hw1
  have hPc := seg_P hP is hC
  have hDc := seg_D hD is hnd hC
  have hF := seg_free hD hS hA is hnd hC
  exact va_calli (va_runS (g := F0 m pc ls st) F hM cw ⟨wrT_blind, wrT_pre hK hPc hDc hT⟩ rfl hn hsize hstack (lv_room hW) hdg hf) hS (fun q _ h => hF q h) hF (fun r u t H1 locs1 ht hvm hw hB hz hk hS1 => by
    rw [hw]
    rw [ht] at hB
    obtain ⟨g1, g2⟩ := seg_join hP hD is hC hnd had hk hB
    exact kk H1 locs1 g1 g2 hS1)
/-- a static method over the whole world, which hands back a world of a kind -/
theorem r_xSi {Pc9 : Array Value → State → Prop} {G : va_W → Prop} (F : CallFix p m c cc nL s args Ts own) (hM : Met l y wy rm Pc9 (geQ D v G (va_A wc H.size)) mc ms (va_A wc H.size)) (hbl : FrameBlind Pc9) (hpre : ∀ U : State, U.heap = H → s.WarmedH U.vm → Pc9 As.toArray U) (cw : CallB R s args own index y bytes maxL ret wy rm mc ms n ∧ (Cond.static y).before args s = true) (hD : va_D A wc) (hS : va_S A H0 H locs) (hA : ∀ q, H0.size ≤ q → A q) (hfst : ∀ w, G w → w.map Prod.fst = wc.map Prod.fst)
    (hn : As.length = n) (hsize : ls.size = nL) (hstack : st = As.reverse ++ rest) (hW : (rest.map fun v => v.category).sum ≤ 8) (hdg : decode cc pc = .ok (.invokestatic index, 3)) (hf : cells + mc ≤ R.cells ∧ slots + ms ≤ R.slots)
    (kk : ∀ (w : va_W) (H1 : Heap) (locs1 : List Loc), G w → va_P D vwCl w H1 → va_D A w → va_S A H0 H1 locs1 → W p l e R s m args below meth c H1 locs1 (cells + mc) (slots + ms) Q (F0 m (pc + 3) ls (.int v :: rest))) : W p l e R s m args below meth c H locs cells slots Q (F0 m pc ls st) := by
  have hF : ∀ q, va_A wc H.size q → A q := by
    rintro q (⟨k, e9, hk⟩ | hq)
    · exact hD.2 k _ hk
    · exact hA q (Nat.le_trans hS.1 hq)
  exact va_calli (va_runS (g := F0 m pc ls st) F hM cw ⟨hbl, hpre⟩ rfl hn hsize hstack (lv_room hW) hdg hf) hS (fun q _ h => hF q h) hF (fun r u t H1 locs1 ht hvm hw hB hz hk hS1 => by
    obtain ⟨rfl, hG⟩ := hw
    rw [ht] at hB
    refine kk u H1 locs1 hG hB ?_ hS1
    rw [D_iff] at hD ⊢
    rw [hfst u hG]
    exact hD)
theorem r_icmp_neB0 (hexec : p.tables.exec = Jvm.exec) (hb : c.code = cc) {x : Bool} {off : Int} {tgt : Nat} (hdg : decode cc pc = .ok (.if_icmp .ne off, 3)) (ht : (pc : Int) + off = (tgt : Int))
    (kt : x = true → W p l e R s m args below meth c H locs cells slots Q (F0 m tgt ls rest)) (kf : x = false → W p l e R s m args below meth c H locs cells slots Q (F0 m (pc + 3) ls rest)) : W p l e R s m args below meth c H locs cells slots Q (F0 m pc ls (.int (nI 0) :: .int (bI x) :: rest)) :=
  lv_icmp_ne hexec hb hdg ht (fun h => kt (by cases x with
    | true => rfl
    | false => exact absurd rfl h)) (fun h => kf (by cases x with
    | true => exact absurd h (by decide)
    | false => rfl))
theorem r_icmp_leNP (hexec : p.tables.exec = Jvm.exec) (hb : c.code = cc) {x : Nat} {o : Option Nat} (hx : x < 2 ^ 31) (ho : ∀ j, o = some j → j < x) {off : Int} {tgt : Nat} (hdg : decode cc pc = .ok (.if_icmp .le off, 3)) (ht : (pc : Int) + off = (tgt : Int))
    (kf : W p l e R s m args below meth c H locs cells slots Q (F0 m (pc + 3) ls rest)) : W p l e R s m args below meth c H locs cells slots Q (F0 m pc ls (.int (eP o) :: .int (nI x) :: rest)) := by
  refine lv_icmp_le hexec hb hdg ht (fun h => absurd h ?_) (fun _ => kf)
  cases o with
  | none =>
    intro h9
    have h9 : nI x ≤ -1 := h9
    rw [Int32.le_iff_toInt_le, nI_toInt hx] at h9
    have e2 : (-1 : Int32).toInt = -1 := by decide
    omega
  | some j =>
    intro h9
    have h9 : nI x ≤ nI j := h9
    have := ho j rfl
    rw [nI_leI hx (by omega)] at h9
    omega
end RUP
