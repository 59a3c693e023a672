/-! THE CLAIM OUT OF ONE WALK OF THE LAW'S BODY. Your part is whole_start (and what it stands on); all else here is the same for every law, but numbers. -/
def R_law : String := "RevisionStoresLaw"
def lw_P (b : Addr) (xs : List Int32) (args : Array Value) (s : State) : Prop := args = #[.ref b] ∧ s.IntsAt b xs ∧ xs.length ≤ 260 ∧ (Jvm.Cond.and given_1 narrow_1).before args s = true
def lw_Q (_ : Array Value) (s : State) (o : Outcome) (t : State) : Prop := o = .returned (some (.int 1)) ∧ Framed s o t [] 600104 7301314
def lw_Z (below : List Frame) (a : Array Value) (s : State) : State → Prop := fun t => ∃ o, t.status = .running ∧ Ended t below o ∧ lw_Q a s o t
/-- the law's own end, with 1 on the stack, nothing written that was there before, its room as the claim has it -/
theorem lw_ret {p : Program} {l : Launch} {e : Env} {s : State} {m : MethodId} {below : List Frame} {meth : Method} {c : Code} {b : Nat} (hx : p.tables.exec = Jvm.exec) (hb : c.code = code) (hr : meth.sig.returnType = ret) (hlocks : meth.locks = false) {pc : Nat} {H : Heap} {ls : Array Slot} (hdg : decode code pc = .ok (.ireturn, 1)) : W p l e room_1 s m #[Value.ref b] below meth c H [] 600104 7301314 (lw_Z below #[Value.ref b] s) (F0 m pc ls [.int 1]) := by
  intro T hT X
  obtain ⟨fs, hret, hrun, hended, hW, hframe⟩ := X.leave (v := some (.int 1)) (hlocks := hlocks) (fun h => by rw [hr] at h; cases h)
  have hmeth' : T.vm.method? m = some meth := X.method'
  refine ⟨T.setFrames fs, ?_, .returned (some (.int 1)), hrun, hended, rfl, ⟨_, rfl⟩, hW, hframe⟩
  jvm_step X.here [X.here.top, hx, hb, hdg, hmeth', hr, ret, narrow_b1]
  (try refine ⟨rfl, ?_⟩); (try refine ⟨rfl, ?_⟩)
  first | (intro acts; rw [hret _ acts rfl rfl rfl]) | rw [hret _ _ rfl rfl rfl]
  exact Steps.refl _
/-- what holds at the law's entry: the machine, the code, the tables' words (any of lw_tbl by 'hts w (by decide +kernel)'), the script of L ints xs at the cell b, what the Statement gives of the start (any of its parts by flat_of_before) -/
def lw_At (p : Program) (s : State) (m : MethodId) (meth : Method) (c : Code) (b L : Nat) (xs : Nat → Int32) : Prop :=
  p.tables.exec = Jvm.exec ∧ c.code = code ∧ meth.sig.returnType = ret ∧ c.maxLocals = 1 ∧ s.vm.findClass R_law = some m.cls ∧ (∀ w ∈ lw_tbl, w.before #[Value.ref b] s = true) ∧ va_X b L xs s s.heap ∧ b < s.heap.size ∧ meth.locks = false ∧ (Jvm.Cond.and given_1 narrow_1).before #[Value.ref b] s = true
def nestPl : List Nat := [32, 99, 47, 108, 106, 112, 110, 114, 56, 39, 42, 51, 53, 44, 87, 90, 55, 41, 50, 38, 48, 45, 86, 37]
theorem nWs_tab : nWs.map some = nestPl.map (fun i => tables_1[i]?) := by decide +kernel
theorem nWs_in : ∀ w ∈ nWs, w ∈ lw_tbl := by
  intro w hw
  have h1 : some w ∈ nWs.map some := List.mem_map.mpr ⟨w, hw, rfl⟩
  rw [nWs_tab] at h1
  obtain ⟨i, -, hi⟩ := List.mem_map.mp h1
  exact List.mem_append_right _ (List.mem_of_getElem? hi)
def strPl : List Nat := [346, 265, 405, 362, 518, 200, 231, 236, 367, 357, 258, 270]
theorem str_tab : xStr.map (fun q => some (Cond.stringRef RX3 q.1 q.2)) = strPl.map (fun i => tables_1[i]?) := by decide +kernel
theorem str_in : ∀ q ∈ xStr, Cond.stringRef RX3 q.1 q.2 ∈ lw_tbl := by
  intro q hq
  have h1 : some (Cond.stringRef RX3 q.1 q.2) ∈ xStr.map (fun q => some (Cond.stringRef RX3 q.1 q.2)) := List.mem_map.mpr ⟨q, hq, rfl⟩
  rw [str_tab] at h1
  obtain ⟨i, -, hi⟩ := List.mem_map.mp h1
  exact List.mem_append_right _ (List.mem_of_getElem? hi)
theorem tab_in {w : Cond} {i : Nat} (h : tables_1[i]? = some w) : w ∈ lw_tbl := List.mem_append_right _ (List.mem_of_getElem? h)
theorem arr_of {s : State} {A : Array Value} {ty : FieldType} (h : (Cond.arrayClass ty).before A s = true) (hp : ∀ C, ty ≠ .object C) : ∃ cA, ArrOfT s cA ty ∧ va_RA s cA ty := by
  obtain ⟨cA, kA, comp, h1, h2, h3⟩ := Cond.arrayClass_spec h
  refine ⟨cA, fun n z => ⟨fun k h => (by cases h), kA, h2, comp, h3⟩, ?_⟩
  cases ty <;> first | exact h1 | exact absurd rfl (hp _)
theorem arr_ofO {s : State} {A : Array Value} {C : String} (h : (Cond.arrayOver (.object C)).before A s = true) : ∃ cA, ArrOfT s cA (.object C) ∧ va_RA s cA (.object C) := by
  obtain ⟨comp, cA, kA, h1, h2, h3, h4, h5⟩ := Cond.arrayOver_spec h
  exact ⟨cA, fun n z => ⟨fun k h => (by cases h), kA, h3, comp, h4⟩, kA, comp, h3, h4, h1, h5⟩
/-- what the tables say of the classes -/
theorem K_start {s : State} {A : Array Value} (hts : ∀ w ∈ lw_tbl, w.before A s = true) : ∃ (D : va_G) (ct : Nat → ClassId), KK D ct s := by
  have htl := fun w h => hts w (wsL_law_in w h)
  obtain ⟨c0, i0, k0⟩ := u_known (C := RX0) (T := TX0) (N := 3) (n := 3) htl inlX0 (hts (.instantiable RX0 3) (tab_in (i := 77) (by decide +kernel)))
  obtain ⟨c1, i1, k1⟩ := u_known (C := RX1) (T := TX1) (N := 5) (n := 5) htl inlX1 (hts (.instantiable RX1 5) (tab_in (i := 98) (by decide +kernel)))
  obtain ⟨c2, i2, k2⟩ := u_known (C := RX2) (T := TX2) (N := 7) (n := 7) htl inlX2 (hts (.instantiable RX2 7) (tab_in (i := 31) (by decide +kernel)))
  obtain ⟨c3, i3, k3⟩ := u_known (C := RX3) (T := TX3) (N := 3) (n := 3) htl inlX3 (hts (.instantiable RX3 3) (tab_in (i := 23) (by decide +kernel)))
  obtain ⟨a0, b0, d0⟩ := arr_of (hts (.arrayClass .int) (tab_in (i := 72) (by decide +kernel))) (fun C h => by cases h)
  obtain ⟨a1, b1, d1⟩ := arr_of (hts (.arrayClass .boolean) (tab_in (i := 73) (by decide +kernel))) (fun C h => by cases h)
  obtain ⟨a2, b2, d2⟩ := arr_ofO (hts (.arrayOver (.object "RevisionStores$Store")) (tab_in (i := 75) (by decide +kernel)))
  refine ⟨(fun k => match k with
    | 0 => c0
    | 1 => c1
    | 2 => c2
    | _ => c3, fun k => match k with
    | 0 => i0
    | 1 => i1
    | 2 => i2
    | _ => i3), (fun k => match k with
    | 0 => a0
    | 1 => a1
    | _ => a2), ⟨fun k q hq => ?_, fun k q hq => ?_⟩, fun w hw => ?_⟩
  · match k, hq with
    | 0, hq => cases hq; exact k0
    | 1, hq => cases hq; exact k1
    | 2, hq => cases hq; exact k2
    | 3, hq => cases hq; exact k3
    | k + 4, hq => simp [vwCl] at hq
  · match k, hq with
    | 0, hq => cases hq; exact ⟨b0, d0⟩
    | 1, hq => cases hq; exact ⟨b1, d1⟩
    | 2, hq => cases hq; exact ⟨b2, d2⟩
    | k + 3, hq => simp [tyA] at hq
  · have h1 := hts w (nWs_in w hw)
    have h2 := nWs_nest w hw
    cases w <;> first | exact va_Nw.of rfl h1 | exact absurd h2 (by simp [isNest])
/-- what throws need, at the start -/
theorem T_start {s : State} {A : Array Value} {D : va_G} {ct : Nat → ClassId} (hK : KK D ct s) (hts : ∀ w ∈ lw_tbl, w.before A s = true) (hgv : (Jvm.Cond.and given_1 narrow_1).before A s = true) : TXA (fun q => s.heap.size ≤ q) s s.heap := by
  have hs := flat_of_before _ hgv
  have hcur := (hK.1.1 3 _ rfl).2.1
  refine ⟨fun q hq => ?_, ⟨⟨va_Nw.of rfl (hts (.castable eO eO) (tab_in (i := 161) (by decide +kernel))), va_Nw.of rfl (hts (.castable eA eA) (tab_in (i := 339) (by decide +kernel))), va_Nw.of rfl (hts (.castable eS eS) (tab_in (i := 251) (by decide +kernel)))⟩, va_Nw.of rfl (hts _ (tab_in (i := 163) (by decide +kernel))), va_Nw.of rfl (hts _ (tab_in (i := 165) (by decide +kernel))), va_Nw.of rfl (hts _ (tab_in (i := 167) (by decide +kernel)))⟩, ⟨va_Nc.of (hs (.not (.castable eA eO)) (by decide +kernel)), va_Nc.of (hs (.not (.castable eS eO)) (by decide +kernel)), va_Nc.of (hs (.not (.castable eS eA)) (by decide +kernel))⟩, ?_, ?_⟩
  · have h1 := hts _ (str_in q hq)
    obtain ⟨k, cf, i, a, -, -, -, -, -, h2⟩ := Cond.stringRef_spec hcur (show (Cond.stringRef RX3 q.1 q.2).holds A s none s [] = true from h1)
    exact ⟨a, vk_R.of h1 h2⟩
  · exact vx_Zqof (hts (.laysStatic Bundle.tN "UNASSIGNED_STACK" Bundle.steD) (tab_in (i := 186) (by decide +kernel))) (hts (.initialized Bundle.tN) (tab_in (i := 6) (by decide +kernel))) (hs (.isRef (.static Bundle.tN "UNASSIGNED_STACK" Bundle.steD)) (by decide +kernel)) (fun a h => Nat.not_le.mpr h)
  · exact vx_Zqof (hts (.laysStatic Bundle.tN "SUPPRESSED_SENTINEL" Bundle.listD) (tab_in (i := 188) (by decide +kernel))) (hts (.initialized Bundle.tN) (tab_in (i := 6) (by decide +kernel))) (hs (.isRef (.static Bundle.tN "SUPPRESSED_SENTINEL" Bundle.listD)) (by decide +kernel)) (fun a h => Nat.not_le.mpr h)
theorem launch_st {l : Launch} (h : l.flags = flags0) : l.stackTraces = false := by
  unfold Launch.stackTraces
  rw [h]
  decide
theorem cL_isHeld_ok (l : Launch) (hlt : l.stackTraces = false) (D : va_G) (ct : Nat → ClassId) (b L : Nat) (xs : Nat → Int32) (hL : L ≤ 260) : Met l yL_isHeld wsL_isHeld ({ frames := 12, cells := 200, slots := 3300, locals := 460 } : Room) (hoPc D ct b L xs) (va_Qi (fun (r9 : Int32) (_ : Unit) => r9 = bI true) (fun _ _ => True) (fun _ => False)) 200 3300 (fun _ => False) := by
  refine met_ofWH (cc := cL_isHeld) (maxL := 2) (ret := (some .boolean)) (hh := [(0, 4, 5, 157), (0, 4, 8, 159), (0, 4, 11, 107)]) (by decide) rfl ?_
  intro p e s m args below meth c s₁ B hml hv
  obtain ⟨rfl, hX, hbl, hK, hT, hO⟩ := hv
  have hx := B.exec
  have hb := B.bytes
  have hr := B.returns
  have hts := atoms_spec (ws := wsL_isHeld) B.pre
  have hown : s.vm.findClass RL = some m.cls := findClass_of_methodNamed B.named
  have hlocks := B.notSynchronized
  have hl := lv_entry ([.ref b]) (n := 2) (Nat.le_of_ble_eq_true rfl)
  rw [lg_entry_eq]
  generalize (lg_sl ([.ref b]) ++ List.replicate (2 - (lg_sl ([.ref b])).length) Slot.unset).toArray = ls at hl ⊢
  have hl : lv_has ls 2 [(0, .ref b)] := hl
  refine lv_aload_n hx hb dL_isHeld_0 rfl (lv_at hl 0 rfl) ?_
  refine va_calli (A0 := fun q => s.heap.size ≤ q) (va_runS (As := [.ref b]) (rest := []) (g := F0 m 1 ls [.ref b]) ⟨hx, hb, hml, hown, hts⟩ (cL_holds_ok l hlt D ct b L xs hL) (va_cwS 1 hts gL_isHeld_L_holds rfl rfl rfl (by decide +kernel) ⟨Nat.le_of_ble_eq_true rfl, Nat.le_of_ble_eq_true rfl⟩) ⟨ho_blind, ho_pre hX hbl hK hT hO⟩ rfl rfl hl.1 rfl (lv_room (by decide)) dL_isHeld_1 ⟨Nat.le_of_ble_eq_true rfl, Nat.le_of_ble_eq_true rfl⟩) va_S.rf (fun q _ h => h.elim) (fun q h => h.elim) (fun r9 u t H1 locs1 ht hvm hw hB hz hk hS => ?_)
  rw [hw]
  refine va_forget (fun q hq => hS.2.2 q hq) ?_
  refine W.widen (k := 200) (n := 3300) (by decide) (by decide) ?_
  exact W.zret hx hb hr (bI_narrow true) (fun t ht hW => ⟨⟨_, (), rfl, rfl, trivial⟩, by rw [ht]; exact hS.1, fun q h1 _ => by rw [ht]; exact hS.2.1 q h1 (Nat.not_le.mpr h1)⟩) (fun _ h => by cases h) dL_isHeld_4
