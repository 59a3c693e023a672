/-! the script's numbers; a call with up to sixteen words beneath it -/
def frV (xs : Nat → Int32) (L k : Nat) : Int32 := if L = 0 then nI ((137 * k) + 107) else xs (k % L) ^^^ (130027 * nI k)
def frN (xs : Nat → Int32) (L k w : Nat) : Nat := ((frV xs L k).toBitVec.toNat % 2 ^ 31) % w
abbrev frPc (b L : Nat) (xs : Nat → Int32) (av : List Value) : Array Value → State → Prop := va_Pc av (fun U => va_X b L xs U U.heap ∧ b < U.heap.size)
theorem fr_blind {b L : Nat} {xs : Nat → Int32} {av : List Value} : FrameBlind (frPc b L xs av) := fun a U g mk q => ⟨q.1, va_X.moved (u := U) (U := U.calling g mk a) (Vm.Alike.refl U.vm) q.2.1, q.2.2⟩
theorem fr_pre {b L : Nat} {xs : Nat → Int32} {av : List Value} {s : State} {H : Heap} (hX : va_X b L xs s H) (hbl : b < H.size) : ∀ U : State, U.heap = H → s.WarmedH U.vm → frPc b L xs av av.toArray U := fun U hU hW => ⟨rfl, by rw [hU]; exact va_X.moved hW.alike hX, by rw [hU]; exact hbl⟩
theorem cL_from_ok (l : Launch) (b L k w : Nat) (xs : Nat → Int32) (hL : L ≤ 260) (hk : k ≤ 1000) (hw1 : 1 ≤ w) (hw2 : w ≤ 1000000) : Met l yL_from wsL_from ({ frames := 0, cells := 0, slots := 0, locals := 0 } : Room) (frPc b L xs [.ref b, .int (nI k), .int (nI w)]) (rqI (nI (frN xs L k w))) 0 0 (fun _ => False) := by
  refine Met.ofW (cc := cL_from) (maxL := 4) (ret := (some .int)) (by decide) rfl ?_
  intro p e s m args below meth c s₁ B hml hv
  obtain ⟨rfl, hX, hbl⟩ := hv
  have hx := B.exec
  have hb := B.bytes
  have hr := B.returns
  have hts := atoms_spec (ws := wsL_from) B.pre
  have hown : s.vm.findClass RL = some m.cls := findClass_of_methodNamed B.named
  have hlocks := B.notSynchronized
  have hl := lv_entry ([.ref b, .int (nI k), .int (nI w)]) (n := 4) (Nat.le_of_ble_eq_true rfl)
  rw [lg_entry_eq]
  generalize (lg_sl ([.ref b, .int (nI k), .int (nI w)]) ++ List.replicate (4 - (lg_sl ([.ref b, .int (nI k), .int (nI w)])).length) Slot.unset).toArray = ls at hl ⊢
  have hl : lv_has ls 4 [(0, .ref b), (1, .int (nI k)), (2, .int (nI w))] := hl
  have hS : va_S (fun _ => False) s.heap s.heap [] := va_S.rf
  have tail : W p l e ({ frames := 0, cells := 0, slots := 0, locals := 0 } : Room) s m ([.ref b, .int (nI k), .int (nI w)] : List Value).toArray below meth c s.heap [] 0 0 (MQ below (rqI (nI (frN xs L k w))) ([.ref b, .int (nI k), .int (nI w)] : List Value).toArray s 0 0 (fun _ => False)) (F0 m 27 ls [.int (frV xs L k)]) := by
    refine lv_istore_n (lv' := [(3, .int (frV xs L k)), (0, .ref b), (1, .int (nI k)), (2, .int (nI w))]) hx hb dL_from_27 rfl hl (by decide) rfl (fun ls hl => ?_)
    refine lv_iload_n hx hb dL_from_28 rfl (lv_at hl 0 rfl) ?_
    refine lv_ldc (v := 2147483647) hx hb hown (hts (.constant RL 8 2147483647) (List.mem_of_getElem? (i := 2) rfl)) dL_from_29 ?_
    refine lv_iand hx hb dL_from_31 ?_
    refine r_top (pk_and (frV xs L k) 31 (by decide +kernel)) ?_
    refine lv_iload_n hx hb dL_from_32 rfl (lv_at hl 3 rfl) ?_
    refine lv_irem hx hb dL_from_33 (nI_ne0 (by omega) (by omega)) ?_
    refine r_top (y := nI (frN xs L k w)) (pk_rem (Nat.mod_lt _ (by decide)) (by omega) (by omega)) ?_
    exact W.iret hx hb hr (fun t ht hW => ⟨_, rfl, rfl, ht⟩) (fun _ h => by cases h) dL_from_34
  refine lv_aload_n hx hb dL_from_0 rfl (lv_at hl 0 rfl) ?_
  refine va_slen hx hb hX hbl (fun h => h) hS dL_from_1 ?_
  refine r_if_neN hx hb (x := L) (by omega) (tgt := 16) dL_from_2 (by decide) (fun c2 => ?_) (fun c2 => ?_)
  · refine lv_aload_n hx hb dL_from_16 rfl (lv_at hl 0 rfl) ?_
    refine lv_iload_n hx hb dL_from_17 rfl (lv_at hl 1 rfl) ?_
    refine lv_aload_n hx hb dL_from_18 rfl (lv_at hl 0 rfl) ?_
    refine va_slen hx hb hX hbl (fun h => h) hS dL_from_19 ?_
    refine lv_irem hx hb dL_from_20 (nI_ne0 (by omega) (by omega)) ?_
    refine r_top (y := nI (k % L)) (pk_rem (by omega) (by omega) (by omega)) ?_
    have hkL : k % L < L := Nat.mod_lt _ c2
    refine va_sld hx hb hX hbl (fun h => h) hS (vp_in_nI hkL (by omega)) dL_from_21 ?_
    rw [nI_clamp (by omega)]
    refine lv_ldc (v := 130027) hx hb hown (hts (.constant RL 7 130027) (List.mem_of_getElem? (i := 1) rfl)) dL_from_22 ?_
    refine lv_iload_n hx hb dL_from_24 rfl (lv_at hl 1 rfl) ?_
    refine lv_imul hx hb dL_from_25 ?_
    refine lv_ixor hx hb dL_from_26 ?_
    refine r_top (y := frV xs L k) (by unfold frV; rw [if_neg (by omega)]) ?_
    exact tail
  · refine lv_sipush (v := nI 137) hx hb dL_from_5 (by decide) ?_
    refine lv_iload_n hx hb dL_from_8 rfl (lv_at hl 1 rfl) ?_
    refine r_imulN hx hb dL_from_9 ?_
    refine lv_bipush (v := nI 107) hx hb dL_from_10 (by decide) ?_
    refine r_iaddN hx hb dL_from_12 ?_
    refine lv_goto (tgt := 27) hx hb dL_from_13 (by decide) ?_
    refine r_top (y := frV xs L k) (by unfold frV; rw [if_pos c2]) ?_
    exact tail
section R16
variable {p : Program} {l : Launch} {e : Env} {R : Room} {s : State} {m : MethodId} {args : Array Value} {below : List Frame} {meth : Method} {c : Code} {H : Heap} {locs : List Loc} {cells slots : Nat} {Q : State → Prop}
variable {cc : ByteArray} {pc : Nat} {ls : Array Slot} {rest st As : List Value} {Ts ws : List Cond} {own : String} {index maxL n nL mc ms : Nat} {y : MethodName} {bytes : ByteArray} {ret : Option FieldType} {rm : Room} {free : Addr → Prop} {Pc : Array Value → State → Prop} {Qc : Array Value → State → Outcome → State → Prop} {g : JFrame}
theorem runS16 (S : CallFix p m c cc nL s args Ts own) (hM : Met l y ws rm Pc Qc mc ms free) (cw : CallB R s args own index y bytes maxL ret ws rm mc ms n ∧ (Cond.static y).before args s = true) (hlo16 : 16 + (maxL + 11) + rm.locals ≤ R.locals) (hp : PreS s H Pc As)
    (hg : g.method = m) (hn : As.length = n) (hsize : g.locals.size = nL) (hstack : g.stack = As.reverse ++ rest) (hW : 2 * g.monitorRoom + (rest.map fun v => v.category).sum ≤ 16) (hdg : decode cc g.pc = .ok (.invokestatic index, 3)) (hf : cells + mc ≤ R.cells ∧ slots + ms ≤ R.slots) :
    CallRun p l e R s m args below meth c H locs cells slots mc ms g rest (Qc As.toArray) (free) := by
  obtain ⟨cb, hstt⟩ := cw
  have hK : Back l R p e below s args y 3 16 (PreOf R mc ms Pc) (PostOf Qc mc ms free) := by
    obtain ⟨hrc, hrs, hfr, hlo, hws, hcw, -, hini, -⟩ := cb
    exact back_of (bytes := bytes) (maxL := maxL) (ret := ret) hM hp.1 hrc hrs hfr hlo16 hws hcw (fun a' U hW => word_at hW (Or.inl (by first | rfl | simp [Cond.onTables, Cond.keeps, Cond.steady])) hini)
  obtain ⟨-, -, -, -, -, -, hcode, hini, hy, hlen, hl⟩ := cb
  obtain ⟨hx, hb, hml, ho, -⟩ := S
  intro T hT X
  obtain ⟨v, vm₁, ⟨U', l2, c2, s2⟩, hW₁, X', ⟨g', mk, t, L, e1, e2, hq, h1, hL, h2, h3⟩, st⟩ := callS X hx (bytes := bytes) (maxL := maxL) (ret := ret) ho hl hstt hini hcode hy hK hg (hsize.trans hml.symm) (argsL := As) (rest := rest) (fun sig h => hn.trans (hlen sig h)) hstack hW (by rw [hb]; exact hdg)
    (fun vm₁ hW₁ => ⟨hf.1, hf.2, hp.2 (T.setVm vm₁) hT hW₁⟩)
  dsimp only [Pt.U, Pt.locs, Pt.cells, Pt.slots] at X' e1 e2 h1 h2 h3 st
  subst h1; subst h2; subst h3
  exact ⟨v, (T.setVm vm₁).calling g' mk As.toArray, t, U', L, hT, X', hL, e1, hq, st⟩
theorem room16 (h : (rest.map fun v => v.category).sum ≤ 16) : 2 * (F0 m pc ls st).monitorRoom + (rest.map fun v => v.category).sum ≤ 16 := by
  show 2 * 0 + _ ≤ 16
  omega
theorem r_frm {b L k w : Nat} {xs : Nat → Int32} (F : CallFix p m c cc nL s args Ts own) (hX : va_X b L xs s H) (hbl : b < H.size) (hL : L ≤ 260) (hk : k ≤ 1000) (hw1 : 1 ≤ w) (hw2 : w ≤ 1000000) (cw : CallB R s args own index yL_from bytes maxL ret wsL_from ({ frames := 0, cells := 0, slots := 0, locals := 0 } : Room) 0 0 3 ∧ (Cond.static yL_from).before args s = true) (hlo16 : 16 + (maxL + 11) + 0 ≤ R.locals)
    (hsize : ls.size = nL) (hW : (rest.map fun v => v.category).sum ≤ 16) (hdg : decode cc pc = .ok (.invokestatic index, 3)) (hf : cells + 0 ≤ R.cells ∧ slots + 0 ≤ R.slots)
    (kk : W p l e R s m args below meth c H locs cells slots Q (F0 m (pc + 3) ls (.int (nI (frN xs L k w)) :: rest))) : W p l e R s m args below meth c H locs cells slots Q (F0 m pc ls (.int (nI w) :: .int (nI k) :: .ref b :: rest)) :=
  vp_callSi (runS16 (As := [.ref b, .int (nI k), .int (nI w)]) (g := F0 m pc ls (.int (nI w) :: .int (nI k) :: .ref b :: rest)) F (cL_from_ok l b L k w xs hL hk hw1 hw2) cw hlo16 ⟨fr_blind, fr_pre hX hbl⟩ rfl rfl hsize rfl (room16 hW) hdg hf) (fun r hr => by rw [hr]; exact kk)
end R16
