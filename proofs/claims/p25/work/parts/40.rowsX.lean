/-! throws of this class, and calls of methods that hand back an address or nothing -/
abbrev eO : String := "java/lang/IndexOutOfBoundsException"
abbrev eA : String := "java/lang/IllegalArgumentException"
abbrev eS : String := "java/lang/IllegalStateException"
abbrev nmE : List String := ["java/lang/RuntimeException", "java/lang/Exception"]
def xStr : List (Nat × String) := [(43, "value is not 0 to 99"), (69, "revision is a deletion"), (72, "depth is not 1 to 20"), (93, "limit is not 1 to 4"), (182, "no such place"), (185, "no such store"), (187, "no such document"), (189, "no such revision"), (191, "both stores are the same"), (193, "the store has revisions of the document"), (195, "revision is no leaf of the document in the store"), (197, "there are 150 revisions")]
theorem ngO : ∀ w ∈ (vx_atS RX3 184 eO nmE).filter (fun w => !goodWord w), w ∈ [Cond.castable eO eO, Cond.declares (Bundle.initS "java/lang/RuntimeException"), Cond.declares (Bundle.initS "java/lang/Exception"), Cond.declares (Bundle.initS Bundle.tN)] := by decide +kernel
theorem ngA : ∀ w ∈ (vx_atS RX3 45 eA nmE).filter (fun w => !goodWord w), w ∈ [Cond.castable eA eA, Cond.declares (Bundle.initS "java/lang/RuntimeException"), Cond.declares (Bundle.initS "java/lang/Exception"), Cond.declares (Bundle.initS Bundle.tN)] := by decide +kernel
theorem ngS : ∀ w ∈ (vx_atS RX3 71 eS nmE).filter (fun w => !goodWord w), w ∈ [Cond.castable eS eS, Cond.declares (Bundle.initS "java/lang/RuntimeException"), Cond.declares (Bundle.initS "java/lang/Exception"), Cond.declares (Bundle.initS Bundle.tN)] := by decide +kernel
theorem otO : ∀ w ∈ Cond.classLink RX3 180 eO :: Cond.initialized eO :: vx_atS RX3 184 eO nmE, vx_ot w = true := by decide +kernel
theorem otA : ∀ w ∈ Cond.classLink RX3 41 eA :: Cond.initialized eA :: vx_atS RX3 45 eA nmE, vx_ot w = true := by decide +kernel
theorem otS : ∀ w ∈ Cond.classLink RX3 67 eS :: Cond.initialized eS :: vx_atS RX3 71 eS nmE, vx_ot w = true := by decide +kernel
theorem fitE : Bundle.fit eO = true ∧ Bundle.fit eA = true ∧ Bundle.fit eS = true ∧ ∀ n ∈ nmE, Bundle.fit n = true := by decide +kernel
/-- what a throw needs beside the tables: the texts, which class is which, Throwable's two statics (none of A writes them) -/
def TXA (A : Nat → Prop) (U : State) (H : Heap) : Prop :=
  (∀ q ∈ xStr, ∃ a, vk_R RX3 q.1 q.2 a U) ∧ ((va_Nw (.castable eO eO) U ∧ va_Nw (.castable eA eA) U ∧ va_Nw (.castable eS eS) U) ∧ (va_Nw (.declares (Bundle.initS "java/lang/RuntimeException")) U ∧ va_Nw (.declares (Bundle.initS "java/lang/Exception")) U ∧ va_Nw (.declares (Bundle.initS Bundle.tN)) U)) ∧ (va_Nc eA eO U ∧ va_Nc eS eO U ∧ va_Nc eS eA U) ∧ vx_Zq Bundle.tN "UNASSIGNED_STACK" Bundle.steD A U H ∧ vx_Zq Bundle.tN "SUPPRESSED_SENTINEL" Bundle.listD A U H
theorem TXA.warm {A : Nat → Prop} {s U : State} {H : Heap} (hW : s.WarmedH U.vm) (h : TXA A s H) : TXA A U H := by
  obtain ⟨h1, ⟨⟨h2, h3, h4⟩, ⟨i2, i3, i4⟩⟩, ⟨h5, h6, h7⟩, h8, h9⟩ := h
  exact ⟨fun q hq => (h1 q hq).elim (fun a ha => ⟨a, vk_R.warm hW ha⟩), ⟨⟨va_Nw.warmC hW h2, va_Nw.warmC hW h3, va_Nw.warmC hW h4⟩, ⟨va_Nw.warmD hW i2, va_Nw.warmD hW i3, va_Nw.warmD hW i4⟩⟩, ⟨va_Nc.moved hW.alike h5, va_Nc.moved hW.alike h6, va_Nc.moved hW.alike h7⟩, vx_Zq.moved hW.alike h8, vx_Zq.moved hW.alike h9⟩
theorem TXA.call {A : Nat → Prop} {U : State} {H : Heap} {g : JFrame} {mk : MethodId} {a : Array Value} (h : TXA A U H) : TXA A (U.calling g mk a) H := by
  obtain ⟨h1, ⟨⟨h2, h3, h4⟩, ⟨i2, i3, i4⟩⟩, ⟨h5, h6, h7⟩, h8, h9⟩ := h
  have hv : (U.calling g mk a).vm = U.vm := rfl
  have hm : U.vm.Alike (U.calling g mk a).vm := Vm.Alike.refl U.vm
  exact ⟨fun q hq => (h1 q hq).elim (fun a ha => ⟨a, vk_R.same hv ha⟩), ⟨⟨va_Nw.same rfl hv.symm h2, va_Nw.same rfl hv.symm h3, va_Nw.same rfl hv.symm h4⟩, ⟨va_Nw.same rfl hv.symm i2, va_Nw.same rfl hv.symm i3, va_Nw.same rfl hv.symm i4⟩⟩, ⟨va_Nc.moved hm h5, va_Nc.moved hm h6, va_Nc.moved hm h7⟩, vx_Zq.moved hm h8, vx_Zq.moved hm h9⟩
theorem TXA.kept {A : Nat → Prop} {U : State} {H H1 : Heap} (h : TXA A U H) (hq : ∀ a : Nat, a < H.size → ¬ A a → H1[a]? = H[a]?) : TXA A U H1 := ⟨h.1, h.2.1, h.2.2.1, h.2.2.2.1.kept hq, h.2.2.2.2.kept hq⟩
theorem TXA.narrow {A B : Nat → Prop} {U : State} {H : Heap} (h : TXA A U H) (hAB : ∀ q, B q → A q) : TXA B U H := ⟨h.1, h.2.1, h.2.2.1, h.2.2.2.1.narrow hAB, h.2.2.2.2.narrow hAB⟩
abbrev TX (U : State) : Prop := TXA (fun _ => False) U U.heap
abbrev bdPc (D : va_G) (ct : Nat → ClassId) (av : List Value) (wc : va_W) : Array Value → State → Prop := va_Pc av (fun U => va_P D vwCl wc U.heap ∧ KK D ct U ∧ TX U)
theorem bd_blind {D : va_G} {ct : Nat → ClassId} {av : List Value} {wc : va_W} : FrameBlind (bdPc D ct av wc) := fun a U g mk q => ⟨q.1, q.2.1, q.2.2.1.call, q.2.2.2.call⟩
theorem bd_pre {D : va_G} {ct : Nat → ClassId} {av : List Value} {wc : va_W} {s : State} {H : Heap} (hK : KK D ct s) (hP : va_P D vwCl wc H) (hT : TXA (fun _ => False) s H) : ∀ U : State, U.heap = H → s.WarmedH U.vm → bdPc D ct av wc av.toArray U := fun U hU hW => ⟨rfl, by rw [hU]; exact hP, hK.warm hW, by show TXA _ U U.heap; rw [hU]; exact hT.warm hW⟩
abbrev bdQ : Array Value → State → Outcome → State → Prop := fun _ _ _ _ => False
abbrev bdX (E : String) : String → State → State → Prop := vx_X (fun _ : Unit => True) (fun E9 _ _ => E9 = E) (fun _ => False)
section RTHR
variable {p : Program} {l : Launch} {e : Env} {R : Room} {s : State} {m : MethodId} {args : Array Value} {below : List Frame} {meth : Method} {c : Code} {H : Heap} {locs : List Loc} {cells slots : Nat} {Q : State → Prop}
variable {cc : ByteArray} {pc : Nat} {ls : Array Slot} {rest st : List Value} {D : va_G} {ct : Nat → ClassId} {wc : va_W} {Ts ws : List Cond} {own C : String} {index maxL n nL : Nat} {y : MethodName} {bytes : ByteArray} {ret : Option FieldType} {rm : Room} {As : List Value} {b : Nat}
theorem r_thr {E : String} {ik ic is : Nat} {text : String} (hx : p.tables.exec = Jvm.exec) (hb : c.code = cc) (hlt : l.stackTraces = false) (hT : TX s) (hown : s.vm.findClass RX3 = some m.cls) (hfit : Bundle.fit E = true)
    (hk : (Cond.classLink RX3 ik E).before args s = true) (hini : (Cond.initialized E).before args s = true) (hgw : ∀ w ∈ (vx_atS RX3 ic E nmE).filter goodWord, w.before args s = true) (hng : ∀ w ∈ (vx_atS RX3 ic E nmE).filter (fun w => !goodWord w), w ∈ [Cond.castable E E, Cond.declares (Bundle.initS "java/lang/RuntimeException"), Cond.declares (Bundle.initS "java/lang/Exception"), Cond.declares (Bundle.initS Bundle.tN)]) (hca : va_Nw (.castable E E) s)
    (hot : ∀ w ∈ Cond.classLink RX3 ik E :: Cond.initialized E :: vx_atS RX3 ic E nmE, vx_ot w = true) (hstr : (is, text) ∈ xStr) (hsize : ls.size = c.maxLocals)
    (d0 : decode cc pc = .ok (.new ik, 3)) (d3 : decode cc (pc + 3) = .ok (.dup, 1)) (d4 : decode cc (pc + 4) = .ok (.ldc is, 2)) (d6 : decode cc (pc + 6) = .ok (.invokespecial ic, 3)) (d9 : decode cc (pc + 9) = .ok (.athrow, 1))
    (ht : ∀ x ∈ c.exceptionTable.toList, False) (hlocks : meth.locks = false) (hRf : 5 < R.frames) (hRl : (rest.map fun v => v.category).sum + 82 ≤ R.locals) (hRc : 1 ≤ R.cells) (hRs : 6 ≤ R.slots) :
    W p l e R s m args below meth c s.heap [] 0 0 (vx_MQ below bdQ (bdX E) args s 1 6 (fun _ => False)) (F0 m pc ls rest) := by
  obtain ⟨h1, ⟨-, ⟨i2, i3, i4⟩⟩, -, h8, h9⟩ := hT
  obtain ⟨sa, hsa⟩ := h1 _ hstr
  refine vx_throwS (text := text) (is := is) (sa := sa) (names := nmE) hx hb hlt hown hfit fitE.2.2.2 hk hini hsa (vx_hat hgw hng (vx_c (va_Nw.use rfl hca) (vx_c (va_Nw.use rfl i2) (vx_c (va_Nw.use rfl i3) (vx_c (va_Nw.use rfl i4) vx_n))))) hot h8 h9 va_S.rf hsize d0 d3 d4 d6 d9 (fun x hx => (ht x hx).elim) (by exact hRf) (by exact hRl) (by omega) (by omega) hlocks ?_ (fun z hz => by cases hz) (Nat.le_refl _) (Nat.le_refl _)
  exact fun t _ h2 h3 => ⟨(), trivial, rfl, h2, fun q hq _ => h3 q hq⟩
theorem r_thrO {is : Nat} {text : String} (hx : p.tables.exec = Jvm.exec) (hb : c.code = cc) (hlt : l.stackTraces = false) (hT : TX s) (hown : s.vm.findClass RX3 = some m.cls)
    (hk : (Cond.classLink RX3 180 eO).before args s = true) (hini : (Cond.initialized eO).before args s = true) (hgw : ∀ w ∈ (vx_atS RX3 184 eO nmE).filter goodWord, w.before args s = true) (hstr : (is, text) ∈ xStr) (hsize : ls.size = c.maxLocals)
    (d0 : decode cc pc = .ok (.new 180, 3)) (d3 : decode cc (pc + 3) = .ok (.dup, 1)) (d4 : decode cc (pc + 4) = .ok (.ldc is, 2)) (d6 : decode cc (pc + 6) = .ok (.invokespecial 184, 3)) (d9 : decode cc (pc + 9) = .ok (.athrow, 1))
    (ht : ∀ x ∈ c.exceptionTable.toList, False) (hlocks : meth.locks = false) (hRf : 5 < R.frames) (hRl : (rest.map fun v => v.category).sum + 82 ≤ R.locals) (hRc : 1 ≤ R.cells) (hRs : 6 ≤ R.slots) :
    W p l e R s m args below meth c s.heap [] 0 0 (vx_MQ below bdQ (bdX eO) args s 1 6 (fun _ => False)) (F0 m pc ls rest) := r_thr hx hb hlt hT hown fitE.1 hk hini hgw ngO hT.2.1.1.1 otO hstr hsize d0 d3 d4 d6 d9 ht hlocks hRf hRl hRc hRs
theorem r_thrA {is : Nat} {text : String} (hx : p.tables.exec = Jvm.exec) (hb : c.code = cc) (hlt : l.stackTraces = false) (hT : TX s) (hown : s.vm.findClass RX3 = some m.cls)
    (hk : (Cond.classLink RX3 41 eA).before args s = true) (hini : (Cond.initialized eA).before args s = true) (hgw : ∀ w ∈ (vx_atS RX3 45 eA nmE).filter goodWord, w.before args s = true) (hstr : (is, text) ∈ xStr) (hsize : ls.size = c.maxLocals)
    (d0 : decode cc pc = .ok (.new 41, 3)) (d3 : decode cc (pc + 3) = .ok (.dup, 1)) (d4 : decode cc (pc + 4) = .ok (.ldc is, 2)) (d6 : decode cc (pc + 6) = .ok (.invokespecial 45, 3)) (d9 : decode cc (pc + 9) = .ok (.athrow, 1))
    (ht : ∀ x ∈ c.exceptionTable.toList, False) (hlocks : meth.locks = false) (hRf : 5 < R.frames) (hRl : (rest.map fun v => v.category).sum + 82 ≤ R.locals) (hRc : 1 ≤ R.cells) (hRs : 6 ≤ R.slots) :
    W p l e R s m args below meth c s.heap [] 0 0 (vx_MQ below bdQ (bdX eA) args s 1 6 (fun _ => False)) (F0 m pc ls rest) := r_thr hx hb hlt hT hown fitE.2.1 hk hini hgw ngA hT.2.1.1.2.1 otA hstr hsize d0 d3 d4 d6 d9 ht hlocks hRf hRl hRc hRs
theorem r_thrS {is : Nat} {text : String} (hx : p.tables.exec = Jvm.exec) (hb : c.code = cc) (hlt : l.stackTraces = false) (hT : TX s) (hown : s.vm.findClass RX3 = some m.cls)
    (hk : (Cond.classLink RX3 67 eS).before args s = true) (hini : (Cond.initialized eS).before args s = true) (hgw : ∀ w ∈ (vx_atS RX3 71 eS nmE).filter goodWord, w.before args s = true) (hstr : (is, text) ∈ xStr) (hsize : ls.size = c.maxLocals)
    (d0 : decode cc pc = .ok (.new 67, 3)) (d3 : decode cc (pc + 3) = .ok (.dup, 1)) (d4 : decode cc (pc + 4) = .ok (.ldc is, 2)) (d6 : decode cc (pc + 6) = .ok (.invokespecial 71, 3)) (d9 : decode cc (pc + 9) = .ok (.athrow, 1))
    (ht : ∀ x ∈ c.exceptionTable.toList, False) (hlocks : meth.locks = false) (hRf : 5 < R.frames) (hRl : (rest.map fun v => v.category).sum + 82 ≤ R.locals) (hRc : 1 ≤ R.cells) (hRs : 6 ≤ R.slots) :
    W p l e R s m args below meth c s.heap [] 0 0 (vx_MQ below bdQ (bdX eS) args s 1 6 (fun _ => False)) (F0 m pc ls rest) := r_thr hx hb hlt hT hown fitE.2.2.1 hk hini hgw ngS hT.2.1.1.2.2 otS hstr hsize d0 d3 d4 d6 d9 ht hlocks hRf hRl hRc hRs
/-- a call of a method that throws: it goes on to the caller -/
theorem r_xV {E : String} {Qc : Array Value → State → Outcome → State → Prop} (S : CallFix p m c cc nL s args Ts own) (hM : vx_Met l y ws rm (bdPc D ct (.ref b :: As) wc) bdQ (bdX E) 1 6 (fun _ => False)) (cw : CallW R s args own C index y bytes maxL ret ws rm 1 6 n) (hK : KK D ct s) (hP : va_P D vwCl wc s.heap) (hT : TX s)
    (q0 ci : Nat) {T : u_T} {N : Nat} {fs : List Value} (he : wc[q0]? = some (b, .inr (ci, fs))) (hc : vwCl[ci]? = some (C, T, N)) (hn : As.length = n) (hsize : ls.size = nL) (hstack : st = As.reverse ++ .ref b :: rest) (hW : (rest.map fun v => v.category).sum ≤ 8) (hdg : decode cc pc = .ok (.invokevirtual index, 3)) (hf : 0 + 1 ≤ R.cells ∧ 0 + 6 ≤ R.slots)
    (ht : ∀ x ∈ c.exceptionTable.toList, False) (hlocks : meth.locks = false) : W p l e R s m args below meth c s.heap [] 0 0 (vx_MQ below Qc (bdX E) args s 1 6 (fun _ => False)) (F0 m pc ls st) := by
  have hr := vx_runV (g := F0 m pc ls st) (l := l) (e := e) (below := below) (meth := meth) (H := s.heap) (locs := []) (cells := 0) (slots := 0) S hM cw ⟨bd_blind, va_recv hK.1 hP hc he, bd_pre hK hP hT⟩ rfl hn hsize hstack (lv_room hW) hdg hf
  intro T9 hT9 X
  rcases hr T9 hT9 X with ⟨v, st₀, t, T', L, h0, X', hL, e1, e2, hQ, hst⟩ | ⟨q, st₀, t, T', L, E9, ce, h0, X', hL, e1, e2, ⟨u, -, rfl, hF⟩, hce, hcv, hcl, hst⟩
  · exact hQ.elim
  · obtain ⟨k1, k2⟩ := hF
    rw [h0] at k1 k2
    obtain ⟨t2, a1, b1⟩ := vx_out (Qc := Qc) (XC := bdX E9) (free := fun _ => False) (mc := 1) (ms := 6) (rest := rest) (pc := pc) (ls := ls) (c := c) (s := s) (H := T'.heap) (fun x hx => (ht x hx).elim) hlocks (by rw [e1]; exact hce) hcv hcl (fun t9 h9 _ => ⟨(), trivial, rfl, by rw [h9, e1]; exact k1, fun q hq hn => by rw [h9, e1]; exact k2 q hq hn⟩) (fun z hz => hL z (by simpa using hz)) (by decide) (by decide) T' rfl X'
    exact ⟨t2, hst.trans a1, b1⟩
theorem r_cVr {v : Nat} (S : CallFix p m c cc nL s args Ts own) (hM : Met l y ws rm (roPc D ct (.ref b :: As) wc) (va_Sr (fun q9 => q9 = v) .ref) 0 0 (fun _ => False)) (cw : CallW R s args own C index y bytes maxL ret ws rm 0 0 n) (hK : KK D ct s) (hP : va_P D vwCl wc H)
    (q0 ci : Nat) {T : u_T} {N : Nat} {fs : List Value} (he : wc[q0]? = some (b, .inr (ci, fs))) (hc : vwCl[ci]? = some (C, T, N)) (hn : As.length = n) (hsize : ls.size = nL) (hstack : st = As.reverse ++ .ref b :: rest) (hW : (rest.map fun v => v.category).sum ≤ 8) (hdg : decode cc pc = .ok (.invokevirtual index, 3)) (hf : cells + 0 ≤ R.cells ∧ slots + 0 ≤ R.slots)
    (kk : W p l e R s m args below meth c H locs cells slots Q (F0 m (pc + 3) ls (.ref v :: rest))) : W p l e R s m args below meth c H locs cells slots Q (F0 m pc ls st) :=
  va_csr (W.runV (g := F0 m pc ls st) S hM cw ⟨ro_blind, va_recv hK.1 hP hc he, ro_pre hK hP⟩ rfl hn hsize hstack (lv_room hW) hdg hf) (fun r hr => by rw [hr]; exact kk)
theorem r_cVv (S : CallFix p m c cc nL s args Ts own) (hM : Met l y ws rm (roPc D ct (.ref b :: As) wc) (va_Sv (fun _ => True)) 0 0 (fun _ => False)) (cw : CallW R s args own C index y bytes maxL ret ws rm 0 0 n) (hK : KK D ct s) (hP : va_P D vwCl wc H)
    (q0 ci : Nat) {T : u_T} {N : Nat} {fs : List Value} (he : wc[q0]? = some (b, .inr (ci, fs))) (hc : vwCl[ci]? = some (C, T, N)) (hn : As.length = n) (hsize : ls.size = nL) (hstack : st = As.reverse ++ .ref b :: rest) (hW : (rest.map fun v => v.category).sum ≤ 8) (hdg : decode cc pc = .ok (.invokevirtual index, 3)) (hf : cells + 0 ≤ R.cells ∧ slots + 0 ≤ R.slots)
    (kk : W p l e R s m args below meth c H locs cells slots Q (F0 m (pc + 3) ls rest)) : W p l e R s m args below meth c H locs cells slots Q (F0 m pc ls st) :=
  va_csv (W.runV (g := F0 m pc ls st) S hM cw ⟨ro_blind, va_recv hK.1 hP hc he, ro_pre hK hP⟩ rfl hn hsize hstack (lv_room hW) hdg hf) (fun _ => kk)
theorem r_mmaxP {cc : ByteArray} (hexec : p.tables.exec = Jvm.exec) (hb : c.code = cc) (hml : c.maxLocals = ls.size) {own : String} {index : Nat} (hown : s.vm.findClass own = some m.cls) (hlink : (Cond.methodLink own index Lib.Math.max.name).before args s = true) (hstat : (Cond.static Lib.Math.max.name).before args s = true) (hini : (Cond.initialized "java/lang/Math").before args s = true) (hcode : (Cond.code Lib.Math.max.name Lib.Math.max.code 2 (some .int)).before args s = true)
    (hframes : 1 ≤ R.frames) (hlocals : (rest.map fun v => v.category).sum + 13 ≤ R.locals) (hc : cells ≤ R.cells) (hs : slots ≤ R.slots) {z : Nat} (hz : z < 2 ^ 31) (hdg : decode cc pc = .ok (.invokestatic index, 3))
    (kk : W p l e R s m args below meth c H locs cells slots Q (F0 m (pc + 3) ls (.int (nI (z - 1)) :: rest))) : W p l e R s m args below meth c H locs cells slots Q (F0 m pc ls (.int (eP (prd z)) :: .int (nI 0) :: rest)) := by
  refine va_mmax hexec hb hml hown hlink hstat hini hcode hframes hlocals hc hs hdg ?_
  have e : (if nI 0 < eP (prd z) then eP (prd z) else nI 0) = nI (z - 1) := by
    cases z with
    | zero => decide
    | succ j =>
      show (if nI 0 < nI j then nI j else nI 0) = nI (j + 1 - 1)
      by_cases h : 0 < j
      · rw [if_pos ((nI_ltI (by omega) (by omega)).mpr h)]; rfl
      · rw [if_neg (fun z => h ((nI_ltI (by omega) (by omega)).mp z)), show j = 0 by omega]
  rw [e]
  exact kk
end RTHR
theorem inn_bad {x : Int32} {k : Nat} (hk : k < 2 ^ 30) (h : inn x (nI 0) (nI k) = false) (h1 : ¬ x < 0) (h2 : x < nI (k + 1)) : False := by
  have e1 : (nI k).toInt = (k : Int) := nI_toInt (by omega)
  have e2 : (nI (k + 1)).toInt = ((k + 1 : Nat) : Int) := nI_toInt (by omega)
  have a1 : ¬ x < nI 0 := h1
  have a2 : ¬ nI k < x := by
    rw [Int32.lt_iff_toInt_lt] at h2 ⊢
    omega
  simp [inn, a1, a2] at h
theorem inn_badr {x : Int32} {n : Nat} (hn : n ≤ 150) (h : inn x (nI 0) (eP (prd n)) = false) (h1 : ¬ x < 0) (h2 : x < nI n) : False := by
  cases n with
  | zero => exact h1 h2
  | succ k => exact inn_bad (by omega) h h1 h2
